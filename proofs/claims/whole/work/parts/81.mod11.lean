/-! THE MODEL PLAYS: who is drowned, who gives, who goes on -/
section ZMOD11
variable {Z : zPar} {l : Launch} {Λ : Nat → Nat} {S : zSt} {M M0 : zMem} {d d' : Nat} {mm : zMeth} {pc n nc ns ix nc1 ns1 : Nat} {L : List (Nat × Value)} {st : List Value} {Q : zO → zMem → Prop}
/-- how loud the turn of the k-th pitch is heard at the i-th -/
def fHrM (S : zSt) (A : Nat → Nat → Nat) (i k t : Nat) : Int32 := 10 * sV S (1140 + A k t) 545 + sV S (1100 + k) 577 - (if 0 ≤ sV S (1100 + k) 576 - sV S (1100 + i) 576 then sV S (1100 + k) 576 - sV S (1100 + i) 576 else 0 - (sV S (1100 + k) 576 - sV S (1100 + i) 576))
def fDrM (S : zSt) (A : Nat → Nat → Nat) (i a : Nat) (m : Int32) (n : Nat) : Bool := zit (fun k b => if ¬ k = i ∧ fAtM S k m < sc S (1010 + k) then b || decide (10 * sV S (1140 + a) 545 < fHrM S A i k (fAtM S k m)) else b) n false
theorem k_isDrowned {i a m : Nat} {A : Nat → Nat → Nat} (hR : zRp Z Λ S M) (h4 : sc S 4 = 1) (hi : i < sc S 1000) (ha : a < sc S 1001) (hA : zActs S A) : zD Z l 4 mth_X16_isDrowned [.ref (Λ 1001), .ref (Λ (1100 + i)), .ref (Λ (1140 + a)), .int (nI m)] M 0 0 (some (.int (zb (fDrM S A i a (nI m) (sc S 1000))))) M := by
  intro Q hQ
  have hb1 : sc S 1000 ≤ 6 := hR.bnd.2.1.1
  have hb2 : sc S 1001 ≤ 8 := hR.bnd.2.1.2.1
  show zX Z l 4 mth_X16_isDrowned 0 [(0, .ref (Λ 1001)), (1, .ref (Λ (1100 + i))), (2, .ref (Λ (1140 + a))), (3, .int (nI m))] [] M 0 0 Q
  refine zs_iconst (v := 0) (n := 1) dX16_isDrowned_0 (by decide) rfl ?_
  refine zs_istore (n := 3) dX16_isDrowned_1 (by decide) rfl ?_
  refine zs_iconst (v := 0) (n := 4) dX16_isDrowned_3 (by decide) rfl ?_
  refine zs_istore (n := 6) dX16_isDrowned_4 (by decide) rfl ?_
  refine zX.sub (L' := [(0, .ref (Λ 1001)), (1, .ref (Λ (1100 + i))), (2, .ref (Λ (1140 + a))), (3, .int (nI m)), (4, .int (zb (fDrM S A i a (nI m) 0))), (5, .int (nI 0))]) ⟨rfl, rfl, rfl, rfl, rfl, rfl, trivial⟩ ?_
  refine zloop (n := sc S 1000) (X := fun j => zX Z l 4 mth_X16_isDrowned 6 [(0, .ref (Λ 1001)), (1, .ref (Λ (1100 + i))), (2, .ref (Λ (1140 + a))), (3, .int (nI m)), (4, .int (zb (fDrM S A i a (nI m) j))), (5, .int (nI j))] [] M 0 0 Q) (fun j hj ih => ?_) ?_ 0 (Nat.zero_le _)
  · have hb6 : sc S 1000 ≤ 6 := hR.bnd.2.1.1
    refine zs_iload (n := 8) dX16_isDrowned_6 rfl rfl ?_
    refine zs_aload_n (n := 9) dX16_isDrowned_8 rfl rfl ?_
    refine zs_getr (b := (Λ 1015)) (n := 12) dX16_isDrowned_9 gf_X16_10 (hR.kd (lvM h4 (by omega))) (hR.pt (lvM h4 (by omega)) rfl (by decide)) rfl ?_
    refine zc_size (c := sc S 1000) (n := 15) dX16_isDrowned_12 ml_X16_46 (hR.lP' h4) (by simp) (by omega) rfl ?_
    refine zs_icmp_ge (tgt := 128) (n := 18) dX16_isDrowned_15 (by decide) rfl (fun h => absurd h (nI_ge hj (by omega))) (fun _ => ?_)
    refine zs_aload_n (n := 19) dX16_isDrowned_18 rfl rfl ?_
    refine zs_getr (b := (Λ 1015)) (n := 22) dX16_isDrowned_19 gf_X16_10 (hR.kd (lvM h4 (by omega))) (hR.pt (lvM h4 (by omega)) rfl (by decide)) rfl ?_
    refine zs_iload (n := 24) dX16_isDrowned_22 rfl rfl ?_
    refine zc_getb (c := sc S 1000) (b := (Λ (1100 + j))) (n := 27) dX16_isDrowned_24 ml_X16_94 (hR.lP' h4) hj rfl (by simp) (by omega) rfl ?_
    refine zs_castS (ci := 18) (n := 30) dX16_isDrowned_27 rfl cl_X16_68 (hR.kP' hj) rfl ?_
    refine zs_astore (n := 32) dX16_isDrowned_30 (by decide) rfl ?_
    refine zs_aload (n := 34) dX16_isDrowned_32 rfl rfl ?_
    refine zs_aload_n (n := 35) dX16_isDrowned_34 rfl rfl ?_
    refine zs_acmp_ne (tgt := 42) (n := 38) dX16_isDrowned_35 (by decide) rfl (fun h35 => ?_) (fun h35 => ?_)
    · have hki : ¬ j = i := fun e => h35 (by rw [e])
      refine zs_aload (n := 44) dX16_isDrowned_42 rfl rfl ?_
      refine zs_iload_n (n := 45) dX16_isDrowned_44 rfl rfl ?_
      by_cases hat45 : fAtM S j (nI m) < sc S (1010 + j)
      · refine zc_V (n := 48) (As := [.int (nI m)]) (ci := 18) (mc := 0) (ms := 0) (d' := 3) dX16_isDrowned_45 ok_X13_at ⟨ml_X16_226, im_X13_at, sl_X13_at⟩ rfl (hR.kP' hj) rfl (Nat.le_of_ble_eq_true rfl) (by simp) (by omega) (Nat.le_refl _) (Nat.le_refl _) rfl rfl (k_at hR h4 hj rfl hat45) ?_
        have hpos : fDrM S A i a (nI m) (j + 1) = (fDrM S A i a (nI m) j || decide (10 * sV S (1140 + a) 545 < fHrM S A i j (fAtM S j (nI m)))) := if_pos ⟨hki, hat45⟩
        refine zs_astore (n := 50) dX16_isDrowned_48 (by decide) rfl ?_
        refine zs_aload (n := 52) dX16_isDrowned_50 rfl rfl ?_
        refine zs_ifnull (n := 55) dX16_isDrowned_52 rfl ?_
        refine zs_bipush (v := 10) (n := 57) dX16_isDrowned_55 (by decide) rfl ?_
        refine zs_aload_n (n := 58) dX16_isDrowned_57 rfl rfl ?_
        refine zs_getr (b := (Λ 1017)) (n := 61) dX16_isDrowned_58 gf_X16_16 (hR.kd (lvM h4 (by omega))) (hR.pt (lvM h4 (by omega)) rfl (by decide)) rfl ?_
        refine zs_aload (n := 63) dX16_isDrowned_61 rfl rfl ?_
        refine zs_getv (x := (sV S (1160 + 8 * j + (fAtM S j (nI m))) 608)) (n := 66) dX16_isDrowned_63 gf_X16_169 (hR.kK' hj hat45) (hR.iv (lvK' hj hat45) (by decide) (by decide)) rfl ?_
        rw [(hA j _ hj hat45).1]
        have hat45a := (hA j _ hj hat45).2
        refine zc_getb (c := sc S 1001) (b := (Λ (1140 + (A j (fAtM S j (nI m)))))) (n := 69) dX16_isDrowned_66 ml_X16_94 (hR.lA' h4) hat45a rfl (by simp) (by omega) rfl ?_
        refine zs_castS (ci := 17) (n := 72) dX16_isDrowned_69 rfl cl_X16_111 (hR.kA' hat45a) rfl ?_
        refine zs_getv (x := (sV S (1140 + (A j (fAtM S j (nI m)))) 545)) (n := 75) dX16_isDrowned_72 gf_X16_238 (hR.kA' hat45a) (hR.iv (lvA' hat45a) (by decide) (by decide)) rfl ?_
        refine zs_imul (n := 76) dX16_isDrowned_75 rfl ?_
        refine zs_aload (n := 78) dX16_isDrowned_76 rfl rfl ?_
        refine zs_getv (x := (sV S (1100 + j) 577)) (n := 81) dX16_isDrowned_78 gf_X16_241 (hR.kP' hj) (hR.iv (lvP' hj) (by decide) (by decide)) rfl ?_
        refine zs_iadd (n := 82) dX16_isDrowned_81 rfl ?_
        refine zs_aload (n := 84) dX16_isDrowned_82 rfl rfl ?_
        refine zs_getv (x := (sV S (1100 + j) 576)) (n := 87) dX16_isDrowned_84 gf_X16_70 (hR.kP' hj) (hR.iv (lvP' hj) (by decide) (by decide)) rfl ?_
        refine zs_aload_n (n := 88) dX16_isDrowned_87 rfl rfl ?_
        refine zs_getv (x := (sV S (1100 + i) 576)) (n := 91) dX16_isDrowned_88 gf_X16_70 (hR.kP' hi) (hR.iv (lvP' hi) (by decide) (by decide)) rfl ?_
        refine zs_isub (n := 92) dX16_isDrowned_91 rfl ?_
        refine zs_abs (n := 95) dX16_isDrowned_92 ⟨⟨tw_8 _ (List.mem_of_getElem? (i := 41) (by decide +kernel)), by decide +kernel⟩, w_a1, w_m2, w_a3⟩ (by simp) rfl ?_
        refine zs_isub (n := 96) dX16_isDrowned_95 rfl ?_
        refine zs_istore (n := 98) dX16_isDrowned_96 (by decide) rfl ?_
        refine zs_iload (n := 100) dX16_isDrowned_98 rfl rfl ?_
        refine zs_if_ne (tgt := 115) (n := 103) dX16_isDrowned_100 (by decide) rfl (fun h100 => ?_) (fun h100 => ?_)
        · have hst : fDrM S A i a (nI m) (j + 1) = true := by
            first
            | exact hpos.trans ((congrArg (fun b => b || _) (zb1.mp h100)).trans (Bool.true_or _))
            | exact hpos.trans ((congrArg (fun b => _ || b) (decide_eq_true (Int32.not_le.mp h112))).trans (Bool.or_true _))
          refine zs_iconst (v := 1) (n := 116) dX16_isDrowned_115 (by decide) rfl ?_
          refine zs_goto (tgt := 120) dX16_isDrowned_116 (by decide) ?_
          refine zs_istore (n := 122) dX16_isDrowned_120 (by decide) rfl ?_
          refine zs_iinc (v := (nI (j + 1))) (n := 125) dX16_isDrowned_122 rfl (nI_1 _) (by decide) rfl ?_
          refine zs_goto (tgt := 6) dX16_isDrowned_125 (by decide) ?_
          refine zX.sub (L' := [(0, .ref (Λ 1001)), (1, .ref (Λ (1100 + i))), (2, .ref (Λ (1140 + a))), (3, .int (nI m)), (4, .int (zb (fDrM S A i a (nI m) (j + 1)))), (5, .int (nI (j + 1)))]) ⟨rfl, rfl, rfl, rfl, (show some (Value.int (1 : Int32)) = some (Value.int (zb (fDrM S A i a (nI m) (j + 1)))) from congrArg (fun z => some (Value.int z)) (by first | (rw [hst]; done) | (rw [hst]; rfl))), rfl, trivial⟩ ?_
          exact ih
        · refine zs_iload (n := 105) dX16_isDrowned_103 rfl rfl ?_
          refine zs_bipush (v := 10) (n := 107) dX16_isDrowned_105 (by decide) rfl ?_
          refine zs_aload_n (n := 108) dX16_isDrowned_107 rfl rfl ?_
          refine zs_getv (x := (sV S (1140 + a) 545)) (n := 111) dX16_isDrowned_108 gf_X16_238 (hR.kA' ha) (hR.iv (lvA' ha) (by decide) (by decide)) rfl ?_
          refine zs_imul (n := 112) dX16_isDrowned_111 rfl ?_
          refine zs_icmp_le (tgt := 119) (n := 115) dX16_isDrowned_112 (by decide) rfl (fun h112 => ?_) (fun h112 => ?_)
          · have hst : fDrM S A i a (nI m) (j + 1) = false := hpos.trans ((congrArg (fun b => b || _) (zb0.mp h100)).trans ((Bool.false_or _).trans (decide_eq_false (Int32.not_lt.mpr h112))))
            refine zs_iconst (v := 0) (n := 120) dX16_isDrowned_119 (by decide) rfl ?_
            refine zs_istore (n := 122) dX16_isDrowned_120 (by decide) rfl ?_
            refine zs_iinc (v := (nI (j + 1))) (n := 125) dX16_isDrowned_122 rfl (nI_1 _) (by decide) rfl ?_
            refine zs_goto (tgt := 6) dX16_isDrowned_125 (by decide) ?_
            refine zX.sub (L' := [(0, .ref (Λ 1001)), (1, .ref (Λ (1100 + i))), (2, .ref (Λ (1140 + a))), (3, .int (nI m)), (4, .int (zb (fDrM S A i a (nI m) (j + 1)))), (5, .int (nI (j + 1)))]) ⟨rfl, rfl, rfl, rfl, (show some (Value.int (0 : Int32)) = some (Value.int (zb (fDrM S A i a (nI m) (j + 1)))) from congrArg (fun z => some (Value.int z)) (by first | (rw [hst]; done) | (rw [hst]; rfl))), rfl, trivial⟩ ?_
            exact ih
          · have hst : fDrM S A i a (nI m) (j + 1) = true := by
              first
              | exact hpos.trans ((congrArg (fun b => b || _) (zb1.mp h100)).trans (Bool.true_or _))
              | exact hpos.trans ((congrArg (fun b => _ || b) (decide_eq_true (Int32.not_le.mp h112))).trans (Bool.or_true _))
            refine zs_iconst (v := 1) (n := 116) dX16_isDrowned_115 (by decide) rfl ?_
            refine zs_goto (tgt := 120) dX16_isDrowned_116 (by decide) ?_
            refine zs_istore (n := 122) dX16_isDrowned_120 (by decide) rfl ?_
            refine zs_iinc (v := (nI (j + 1))) (n := 125) dX16_isDrowned_122 rfl (nI_1 _) (by decide) rfl ?_
            refine zs_goto (tgt := 6) dX16_isDrowned_125 (by decide) ?_
            refine zX.sub (L' := [(0, .ref (Λ 1001)), (1, .ref (Λ (1100 + i))), (2, .ref (Λ (1140 + a))), (3, .int (nI m)), (4, .int (zb (fDrM S A i a (nI m) (j + 1)))), (5, .int (nI (j + 1)))]) ⟨rfl, rfl, rfl, rfl, (show some (Value.int (1 : Int32)) = some (Value.int (zb (fDrM S A i a (nI m) (j + 1)))) from congrArg (fun z => some (Value.int z)) (by first | (rw [hst]; done) | (rw [hst]; rfl))), rfl, trivial⟩ ?_
            exact ih
      · refine zc_V (n := 48) (As := [.int (nI m)]) (ci := 18) (mc := 0) (ms := 0) (d' := 3) dX16_isDrowned_45 ok_X13_at ⟨ml_X16_226, im_X13_at, sl_X13_at⟩ rfl (hR.kP' hj) rfl (Nat.le_of_ble_eq_true rfl) (by simp) (by omega) (Nat.le_refl _) (Nat.le_refl _) rfl rfl (k_at_no hR h4 hj hat45) ?_
        have hst : fDrM S A i a (nI m) (j + 1) = fDrM S A i a (nI m) j := if_neg (fun h => hat45 h.2)
        refine zs_astoreN (n := 50) dX16_isDrowned_48 (by decide) rfl ?_
        refine zs_aloadN (n := 52) dX16_isDrowned_50 rfl rfl ?_
        refine zs_ifnullN (tgt := 122) dX16_isDrowned_52 (by decide) ?_
        refine zs_iinc (v := (nI (j + 1))) (n := 125) dX16_isDrowned_122 rfl (nI_1 _) (by decide) rfl ?_
        refine zs_goto (tgt := 6) dX16_isDrowned_125 (by decide) ?_
        refine zX.sub (L' := [(0, .ref (Λ 1001)), (1, .ref (Λ (1100 + i))), (2, .ref (Λ (1140 + a))), (3, .int (nI m)), (4, .int (zb (fDrM S A i a (nI m) (j + 1)))), (5, .int (nI (j + 1)))]) ⟨rfl, rfl, rfl, rfl, (show some (Value.int (zb (fDrM S A i a (nI m) j))) = some (Value.int (zb (fDrM S A i a (nI m) (j + 1)))) from congrArg (fun z => some (Value.int z)) (by first | (rw [hst]; done) | (rw [hst]; rfl))), rfl, trivial⟩ ?_
        exact ih
    · have hki : j = i := by have := (hR.eq (lvP' hj) (lvP' hi)).mp h35; omega
      have hst : fDrM S A i a (nI m) (j + 1) = fDrM S A i a (nI m) j := if_neg (fun h => h.1 hki)
      refine zs_null (n := 39) dX16_isDrowned_38 rfl ?_
      refine zs_goto (tgt := 48) dX16_isDrowned_39 (by decide) ?_
      refine zs_astoreN (n := 50) dX16_isDrowned_48 (by decide) rfl ?_
      refine zs_aloadN (n := 52) dX16_isDrowned_50 rfl rfl ?_
      refine zs_ifnullN (tgt := 122) dX16_isDrowned_52 (by decide) ?_
      refine zs_iinc (v := (nI (j + 1))) (n := 125) dX16_isDrowned_122 rfl (nI_1 _) (by decide) rfl ?_
      refine zs_goto (tgt := 6) dX16_isDrowned_125 (by decide) ?_
      refine zX.sub (L' := [(0, .ref (Λ 1001)), (1, .ref (Λ (1100 + i))), (2, .ref (Λ (1140 + a))), (3, .int (nI m)), (4, .int (zb (fDrM S A i a (nI m) (j + 1)))), (5, .int (nI (j + 1)))]) ⟨rfl, rfl, rfl, rfl, (show some (Value.int (zb (fDrM S A i a (nI m) j))) = some (Value.int (zb (fDrM S A i a (nI m) (j + 1)))) from congrArg (fun z => some (Value.int z)) (by first | (rw [hst]; done) | (rw [hst]; rfl))), rfl, trivial⟩ ?_
      exact ih
  · have hb6 : sc S 1000 ≤ 6 := hR.bnd.2.1.1
    refine zs_iload (n := 8) dX16_isDrowned_6 rfl rfl ?_
    refine zs_aload_n (n := 9) dX16_isDrowned_8 rfl rfl ?_
    refine zs_getr (b := (Λ 1015)) (n := 12) dX16_isDrowned_9 gf_X16_10 (hR.kd (lvM h4 (by omega))) (hR.pt (lvM h4 (by omega)) rfl (by decide)) rfl ?_
    refine zc_size (c := sc S 1000) (n := 15) dX16_isDrowned_12 ml_X16_46 (hR.lP' h4) (by simp) (by omega) rfl ?_
    refine zs_icmp_ge (tgt := 128) (n := 18) dX16_isDrowned_15 (by decide) rfl (fun _ => ?_) (fun h => absurd (nI_le (Nat.le_refl _) (by omega)) h)
    refine zs_iload (n := 130) dX16_isDrowned_128 rfl rfl ?_
    refine zs_ireturn dX16_isDrowned_130 ⟨_, rfl, (znb _)⟩ ?_
    exact hQ
theorem fGrp_w {V V' : Nat → Nat → Int32} {g : Int32} (h : ∀ b, V' (1140 + b) 551 = V (1140 + b) 551) : ∀ n, fGrp V' g n = fGrp V g n
  | 0 => rfl
  | n + 1 => by
    show fGrp V' g n + (if V' (1140 + n) 551 = g then 1 else 0) = fGrp V g n + (if V (1140 + n) 551 = g then 1 else 0)
    rw [fGrp_w h n, h]
/-- each of a group gets its share -/
def fGm (g e : Int32) (n : Nat) (V : Nat → Nat → Int32) : Nat → Nat → Int32 := zit (fun b V => u2 V (1140 + b) 550 (V (1140 + b) 550 + (if V (1140 + b) 551 = g then e else 0))) n V
theorem fGm_k {g e : Int32} {V : Nat → Nat → Int32} {r key : Nat} (h : key ≠ 550) : ∀ n, fGm g e n V r key = V r key
  | 0 => rfl
  | n + 1 => (u2_k h r).trans (fGm_k h n)
theorem fGm_g {g e : Int32} {V : Nat → Nat → Int32} {r : Nat} : ∀ n, fGm g e n V r 551 = V r 551
  | 0 => rfl
  | n + 1 => fGm_k (by decide) (n + 1)
def fGv0 (S : zSt) (t : Nat) (tg : Int32) : zSt := (sc S, u2 (u2 (sV S) t 613 tg) 1001 688 (sV S 1001 688 + tg), sW S, sT S, sP S)
def fGvP (S : zSt) (a : Nat) : Int32 := fGrp (sV S) (sV S (1140 + a) 551) (sc S 1001)
def fGv1 (S : zSt) (t a : Nat) (tg : Int32) (j : Nat) : zSt := wV S (fGm (sV S (1140 + a) 551) (tg / fGvP S a) j (sV (fGv0 S t tg)))
def fGv (S : zSt) (t a : Nat) (tg : Int32) : Nat → Nat → Int32 := u2 (sV (fGv1 S t a tg (sc S 1001))) (1140 + a) 550 (sV (fGv1 S t a tg (sc S 1001)) (1140 + a) 550 + (tg - tg / fGvP S a * fGvP S a))
def fAllM (S : zSt) (t a : Nat) : Int32 := (sV S t 611 - sV S t 611 * 3 * sV S (1140 + a) 547 / 100) * (sV S (1140 + a) 546 + sV S (1140 + a) 547)
theorem fGv0_g {t b : Nat} {tg : Int32} : sV (fGv0 S t tg) (1140 + b) 551 = sV S (1140 + b) 551 := (u2_k (f := u2 (sV S) t 613 tg) (a := 1001) (v := sV S 1001 688 + tg) (k := 688) (j := 551) (by decide) _).trans (u2_k (by decide) _)
theorem fGv0_t {t : Nat} {tg : Int32} : sV (fGv0 S t tg) t 613 = tg := (u2_k (f := u2 (sV S) t 613 tg) (a := 1001) (v := sV S 1001 688 + tg) (k := 688) (j := 613) (by decide) _).trans u2_at
theorem fGv1_t {t a j : Nat} {tg : Int32} : sV (fGv1 S t a tg j) t 613 = tg := (fGm_k (by decide) j).trans fGv0_t
theorem fGv1_g {t a b j : Nat} {tg : Int32} : sV (fGv1 S t a tg j) (1140 + b) 551 = sV S (1140 + b) 551 := (fGm_g j).trans fGv0_g
theorem k_gives_r {i k a m : Nat} (hR : zRp Z Λ S M) (h4 : sc S 4 = 1) (hi : i < sc S 1000) (hk : k < sc S (1010 + i)) (ha : a < sc S 1001) (hrn : fIn (nI m) (sV S 1001 682) (sV S 1001 683) = true) (hgp : ¬ fGvP S a = 0) : zG Z l 3 mth_X16_gives [.ref (Λ 1001), .ref (Λ (1160 + 8 * i + k)), .ref (Λ (1140 + a)), .int (nI m)] M 3 12 none (zRp Z Λ (wV S (fGv S (1160 + 8 * i + k) a (fAllM S (1160 + 8 * i + k) a / 2)))) := by
  intro Q hQ
  have hb1 : sc S 1000 ≤ 6 := hR.bnd.2.1.1
  have hb3 := hR.bnd.2.2 i
  have hb2 : sc S 1001 ≤ 8 := hR.bnd.2.1.2.1
  show zX Z l 3 mth_X16_gives 0 [(0, .ref (Λ 1001)), (1, .ref (Λ (1160 + 8 * i + k))), (2, .ref (Λ (1140 + a))), (3, .int (nI m))] [] M 3 12 Q
  refine zs_aload_n (n := 1) dX16_gives_0 rfl rfl ?_
  refine zs_getv (x := (sV S (1160 + 8 * i + k) 611)) (n := 4) dX16_gives_1 gf_X16_257 (hR.kK' hi hk) (hR.iv (lvK' hi hk) (by decide) (by decide)) rfl ?_
  refine zs_iconst (v := 3) (n := 5) dX16_gives_4 (by decide) rfl ?_
  refine zs_imul (n := 6) dX16_gives_5 rfl ?_
  refine zs_aload_n (n := 7) dX16_gives_6 rfl rfl ?_
  refine zs_getv (x := (sV S (1140 + a) 547)) (n := 10) dX16_gives_7 gf_X16_122 (hR.kA' ha) (hR.iv (lvA' ha) (by decide) (by decide)) rfl ?_
  refine zs_imul (n := 11) dX16_gives_10 rfl ?_
  refine zs_bipush (v := 100) (n := 13) dX16_gives_11 (by decide) rfl ?_
  refine zs_idiv (n := 14) dX16_gives_13 (by decide) rfl ?_
  refine zs_istore (n := 16) dX16_gives_14 (by decide) rfl ?_
  refine zs_aload_n (n := 17) dX16_gives_16 rfl rfl ?_
  refine zs_getv (x := (sV S (1160 + 8 * i + k) 611)) (n := 20) dX16_gives_17 gf_X16_257 (hR.kK' hi hk) (hR.iv (lvK' hi hk) (by decide) (by decide)) rfl ?_
  refine zs_iload (n := 22) dX16_gives_20 rfl rfl ?_
  refine zs_isub (n := 23) dX16_gives_22 rfl ?_
  refine zs_aload_n (n := 24) dX16_gives_23 rfl rfl ?_
  refine zs_getv (x := (sV S (1140 + a) 546)) (n := 27) dX16_gives_24 gf_X16_260 (hR.kA' ha) (hR.iv (lvA' ha) (by decide) (by decide)) rfl ?_
  refine zs_aload_n (n := 28) dX16_gives_27 rfl rfl ?_
  refine zs_getv (x := (sV S (1140 + a) 547)) (n := 31) dX16_gives_28 gf_X16_122 (hR.kA' ha) (hR.iv (lvA' ha) (by decide) (by decide)) rfl ?_
  refine zs_iadd (n := 32) dX16_gives_31 rfl ?_
  refine zs_imul (n := 33) dX16_gives_32 rfl ?_
  refine zs_istore (n := 35) dX16_gives_33 (by decide) rfl ?_
  refine zs_aload_n (n := 36) dX16_gives_35 rfl rfl ?_
  refine zs_aload_n (n := 37) dX16_gives_36 rfl rfl ?_
  refine zs_iload_n (n := 38) dX16_gives_37 rfl rfl ?_
  refine zc_V (n := 41) (As := [.int (nI m)]) (ci := 21) (mc := 0) (ms := 0) dX16_gives_38 ok_X16_rains ⟨ml_X16_263, im_X16_rains, sl_X16_rains⟩ rfl (hR.kd (lvM h4 (by omega))) rfl (Nat.le_of_ble_eq_true rfl) (by simp) (by omega) (Nat.le_refl _) (Nat.le_refl _) rfl rfl (k_rains hR h4) ?_
  refine zs_if_eq (tgt := 51) (n := 44) dX16_gives_41 (by decide) rfl (fun h => absurd h (zb1.mpr hrn)) (fun _ => ?_)
  refine zs_iload (n := 46) dX16_gives_44 rfl rfl ?_
  refine zs_iconst (v := 2) (n := 47) dX16_gives_46 (by decide) rfl ?_
  refine zs_idiv (n := 48) dX16_gives_47 (by decide) rfl ?_
  refine zs_goto (tgt := 53) dX16_gives_48 (by decide) ?_
  rw [show ((((sV S (1160 + 8 * i + k) 611) - ((((sV S (1160 + 8 * i + k) 611) * (3 : Int32)) * (sV S (1140 + a) 547)) / (100 : Int32))) * ((sV S (1140 + a) 546) + (sV S (1140 + a) 547))) / (2 : Int32)) = (fAllM S (1160 + 8 * i + k) a / 2) from rfl]
  refine zw_i (r := (1160 + 8 * i + k)) (n := 56) dX16_gives_53 pf_X16_gives_266 hR (lvK' hi hk) (hR.kK' hi hk) ⟨rfl, rfl⟩ (by decide) rfl ?_
  intro M hR hv
  refine zs_aload_n (n := 57) dX16_gives_56 rfl rfl ?_
  refine zs_dup (n := 58) dX16_gives_57 rfl rfl ?_
  refine zs_getv (x := (sV S 1001 688)) (n := 61) dX16_gives_58 gf_X16_269 (hR.kd (lvM h4 (by omega))) (hR.iv (lvM h4 (by omega)) (by decide) (by decide)) rfl ?_
  refine zs_aload_n (n := 62) dX16_gives_61 rfl rfl ?_
  refine zs_getv (x := ((u2 (sV S) (1160 + 8 * i + k) 613 (fAllM S (1160 + 8 * i + k) a / 2)) (1160 + 8 * i + k) 613)) (n := 65) dX16_gives_62 gf_X16_266 (hR.kK' hi hk) (hR.iv (lvK' hi hk) (by decide) (by decide)) rfl ?_
  rw [show ((u2 (sV S) (1160 + 8 * i + k) 613 (fAllM S (1160 + 8 * i + k) a / 2)) (1160 + 8 * i + k) 613) = (fAllM S (1160 + 8 * i + k) a / 2) from u2_at]
  refine zs_iadd (n := 66) dX16_gives_65 rfl ?_
  refine zw_i (r := 1001) (n := 69) dX16_gives_66 pf_X16_gives_269 hR (lvM h4 (by omega)) (hR.kd (lvM h4 (by omega))) ⟨rfl, rfl⟩ (by decide) rfl ?_
  intro M hR hv
  have hR : zRp Z Λ (fGv0 S (1160 + 8 * i + k) (fAllM S (1160 + 8 * i + k) a / 2)) M := hR
  refine zs_aload_n (n := 70) dX16_gives_69 rfl rfl ?_
  refine zs_getv (x := (sV (fGv0 S (1160 + 8 * i + k) (fAllM S (1160 + 8 * i + k) a / 2)) (1160 + 8 * i + k) 613)) (n := 73) dX16_gives_70 gf_X16_266 (hR.kK' hi hk) (hR.iv (lvK' hi hk) (by decide) (by decide)) rfl ?_
  rw [show (sV (fGv0 S (1160 + 8 * i + k) (fAllM S (1160 + 8 * i + k) a / 2)) (1160 + 8 * i + k) 613) = (fAllM S (1160 + 8 * i + k) a / 2) from fGv0_t]
  refine zs_aload_n (n := 74) dX16_gives_73 rfl rfl ?_
  refine zs_aload_n (n := 75) dX16_gives_74 rfl rfl ?_
  refine zs_getv (x := (sV (fGv0 S (1160 + 8 * i + k) (fAllM S (1160 + 8 * i + k) a / 2)) (1140 + a) 551)) (n := 78) dX16_gives_75 gf_X16_205 (hR.kA' ha) (hR.iv (lvA' ha) (by decide) (by decide)) rfl ?_
  rw [show (sV (fGv0 S (1160 + 8 * i + k) (fAllM S (1160 + 8 * i + k) a / 2)) (1140 + a) 551) = (sV S (1140 + a) 551) from fGv0_g]
  refine zg_V (n := 81) (As := [.int (sV S (1140 + a) 551)]) (ci := 21) (mc := 1) (ms := 4) dX16_gives_78 ok_X16_partners ⟨ml_X16_208, im_X16_partners, sl_X16_partners⟩ rfl (hR.kd (lvM h4 (by omega))) rfl (Nat.le_of_ble_eq_true rfl) (by simp) (by omega) (Nat.le_refl _) (Nat.le_refl _) rfl rfl (k_partners hR h4) ?_
  intro M hR
  rw [show fGrp (sV (fGv0 S (1160 + 8 * i + k) (fAllM S (1160 + 8 * i + k) a / 2))) (sV S (1140 + a) 551) (sc (fGv0 S (1160 + 8 * i + k) (fAllM S (1160 + 8 * i + k) a / 2)) 1001) = fGvP S a from fGrp_w (fun b => fGv0_g) _]
  refine zs_idiv (n := 82) dX16_gives_81 hgp rfl ?_
  refine zs_istore (n := 84) dX16_gives_82 (by decide) rfl ?_
  refine zs_aload_n (n := 85) dX16_gives_84 rfl rfl ?_
  refine zs_getr (b := (Λ 1017)) (n := 88) dX16_gives_85 gf_X16_16 (hR.kd (lvM h4 (by omega))) (hR.pt (lvM h4 (by omega)) rfl (by decide)) rfl ?_
  refine zi_new (r := 1017) (nc1 := 1) (ns1 := 4) (n := 91) 3000 dX16_gives_88 rfl hR (lvM h4 (by omega)) rfl (by decide) (by simp) (by omega) (by omega) (by omega) rfl ?_
  intro q88 M hR1 hI88 hq88 hag88
  have hR := hR1
  refine zs_astore (n := 93) dX16_gives_91 (by decide) rfl ?_
  refine zX.sub (L' := [(0, .ref (Λ 1001)), (1, .ref (Λ (1160 + 8 * i + k))), (2, .ref (Λ (1140 + a))), (3, .int (nI m)), (4, .int ((((sV S (1160 + 8 * i + k) 611) * (3 : Int32)) * (sV S (1140 + a) 547)) / (100 : Int32))), (5, .int (((sV S (1160 + 8 * i + k) 611) - ((((sV S (1160 + 8 * i + k) 611) * (3 : Int32)) * (sV S (1140 + a) 547)) / (100 : Int32))) * ((sV S (1140 + a) 546) + (sV S (1140 + a) 547)))), (6, .int ((fAllM S (1160 + 8 * i + k) a / 2) / (fGvP S a))), (7, .ref q88)]) ⟨rfl, rfl, rfl, rfl, rfl, rfl, rfl, rfl, trivial⟩ ?_
  refine zloop (n := sc S 1001) (X := fun j => ∀ M, zRp Z Λ (fGv1 S (1160 + 8 * i + k) a (fAllM S (1160 + 8 * i + k) a / 2) j) M ∧ zIt M q88 (Λ 1017) j 3000 → zX Z l 3 mth_X16_gives 93 [(0, .ref (Λ 1001)), (1, .ref (Λ (1160 + 8 * i + k))), (2, .ref (Λ (1140 + a))), (3, .int (nI m)), (4, .int ((((sV S (1160 + 8 * i + k) 611) * (3 : Int32)) * (sV S (1140 + a) 547)) / (100 : Int32))), (5, .int (((sV S (1160 + 8 * i + k) 611) - ((((sV S (1160 + 8 * i + k) 611) * (3 : Int32)) * (sV S (1140 + a) 547)) / (100 : Int32))) * ((sV S (1140 + a) 546) + (sV S (1140 + a) 547)))), (6, .int ((fAllM S (1160 + 8 * i + k) a / 2) / (fGvP S a))), (7, .ref q88)] [] M 1 4 Q) (fun j hj ih => ?_) ?_ 0 (Nat.zero_le _) M ?_
  · intro M hR9
    obtain ⟨hR, hI88⟩ := hR9
    have hb993 : sc S 1001 ≤ _ := hR.bnd.2.1.2.1
    refine zs_aload (n := 95) dX16_gives_93 rfl rfl ?_
    refine zi_has (r := 1017) (j := j) (n := 100) dX16_gives_95 rfl hR (lvM h4 (by omega)) rfl hI88 (by rw [show zct (sc (fGv1 S (1160 + 8 * i + k) a (fAllM S (1160 + 8 * i + k) a / 2) j)) 1017 = sc S 1001 from rfl]; omega) (by simp) (by omega) rfl ?_
    rw [show zct (sc (fGv1 S (1160 + 8 * i + k) a (fAllM S (1160 + 8 * i + k) a / 2) j)) 1017 = sc S 1001 from rfl]
    refine zs_if_eq (tgt := 146) (n := 103) dX16_gives_100 (by decide) rfl (fun h => absurd h (zb1.mpr (by rw [decide_eq_false (by omega)]; rfl))) (fun _ => ?_)
    refine zs_aload (n := 105) dX16_gives_103 rfl rfl ?_
    refine zi_next (r := 1017) (j := j) (b := (Λ (1140 + j))) (n := 110) dX16_gives_105 rfl hR (lvM h4 (by omega)) rfl hI88 (by rw [show zct (sc (fGv1 S (1160 + 8 * i + k) a (fAllM S (1160 + 8 * i + k) a / 2) j)) 1017 = sc S 1001 from rfl]; exact hj) rfl (by simp) (by omega) rfl ?_
    intro M hR1 hI88n hag105
    have hI88 := hI88n
    have hR := hR1
    refine zs_castS (ci := 17) (n := 113) dX16_gives_110 rfl cl_X16_111 (hR.kA' hj) rfl ?_
    refine zs_astore (n := 115) dX16_gives_113 (by decide) rfl ?_
    refine zs_aload (n := 117) dX16_gives_115 rfl rfl ?_
    refine zs_dup (n := 118) dX16_gives_117 rfl rfl ?_
    refine zs_getv (x := (sV (fGv1 S (1160 + 8 * i + k) a (fAllM S (1160 + 8 * i + k) a / 2) j) (1140 + j) 550)) (n := 121) dX16_gives_118 gf_X16_251 (hR.kA' hj) (hR.iv (lvA' hj) (by decide) (by decide)) rfl ?_
    refine zs_aload (n := 123) dX16_gives_121 rfl rfl ?_
    refine zs_getv (x := (sV (fGv1 S (1160 + 8 * i + k) a (fAllM S (1160 + 8 * i + k) a / 2) j) (1140 + j) 551)) (n := 126) dX16_gives_123 gf_X16_205 (hR.kA' hj) (hR.iv (lvA' hj) (by decide) (by decide)) rfl ?_
    refine zs_aload_n (n := 127) dX16_gives_126 rfl rfl ?_
    refine zs_getv (x := (sV (fGv1 S (1160 + 8 * i + k) a (fAllM S (1160 + 8 * i + k) a / 2) j) (1140 + a) 551)) (n := 130) dX16_gives_127 gf_X16_205 (hR.kA' ha) (hR.iv (lvA' ha) (by decide) (by decide)) rfl ?_
    rw [show (sV (fGv1 S (1160 + 8 * i + k) a (fAllM S (1160 + 8 * i + k) a / 2) j) (1140 + a) 551) = (sV S (1140 + a) 551) from fGv1_g]
    refine zs_icmp_ne (tgt := 138) (n := 133) dX16_gives_130 (by decide) rfl (fun h130 => ?_) (fun h130 => ?_)
    · refine zs_iconst (v := 0) (n := 139) dX16_gives_138 (by decide) rfl ?_
      refine zs_iadd (n := 140) dX16_gives_139 rfl ?_
      refine zs_puti (n := 143) dX16_gives_140 pf_X16_gives_251 (hR.kA' hj) ⟨rfl, rfl⟩ rfl ?_
      have hI88 := hI88.sI (k := 550) (v := ((sV (fGv1 S (1160 + 8 * i + k) a (fAllM S (1160 + 8 * i + k) a / 2) j) (1140 + j) 550) + (0 : Int32))) (hR.nt (r := (1140 + j)) hI88.1 (lvA' hj)) (by decide)
      have hR := hR.sI (s := (1140 + j)) (k := 550) (v := ((sV (fGv1 S (1160 + 8 * i + k) a (fAllM S (1160 + 8 * i + k) a / 2) j) (1140 + j) 550) + (0 : Int32))) (lvA' hj) (by decide) (by decide) (by decide)
      revert hR hI88
      generalize sI M (Λ (1140 + j)) 550 ((sV (fGv1 S (1160 + 8 * i + k) a (fAllM S (1160 + 8 * i + k) a / 2) j) (1140 + j) 550) + (0 : Int32)) = M
      intro hI88 hR
      refine zs_goto (tgt := 93) dX16_gives_143 (by decide) ?_
      refine zX.sub (L' := [(0, .ref (Λ 1001)), (1, .ref (Λ (1160 + 8 * i + k))), (2, .ref (Λ (1140 + a))), (3, .int (nI m)), (4, .int ((((sV S (1160 + 8 * i + k) 611) * (3 : Int32)) * (sV S (1140 + a) 547)) / (100 : Int32))), (5, .int (((sV S (1160 + 8 * i + k) 611) - ((((sV S (1160 + 8 * i + k) 611) * (3 : Int32)) * (sV S (1140 + a) 547)) / (100 : Int32))) * ((sV S (1140 + a) 546) + (sV S (1140 + a) 547)))), (6, .int ((fAllM S (1160 + 8 * i + k) a / 2) / (fGvP S a))), (7, .ref q88)]) ⟨rfl, rfl, rfl, rfl, rfl, rfl, rfl, rfl, trivial⟩ ?_
      have hR : zRp Z Λ (fGv1 S (1160 + 8 * i + k) a (fAllM S (1160 + 8 * i + k) a / 2) (j + 1)) M := by
        show zRp Z Λ (sc S, u2 (sV (fGv1 S (1160 + 8 * i + k) a (fAllM S (1160 + 8 * i + k) a / 2) j)) (1140 + j) 550 (sV (fGv1 S (1160 + 8 * i + k) a (fAllM S (1160 + 8 * i + k) a / 2) j) (1140 + j) 550 + (if sV (fGv1 S (1160 + 8 * i + k) a (fAllM S (1160 + 8 * i + k) a / 2) j) (1140 + j) 551 = (sV S (1140 + a) 551) then (fAllM S (1160 + 8 * i + k) a / 2) / fGvP S a else 0)), sW S, sT S, sP S) M
        first
        | (rw [if_pos h130]; exact hR)
        | (rw [if_neg h130]; exact hR)
      exact ih M ⟨hR, hI88⟩
    · refine zs_iload (n := 135) dX16_gives_133 rfl rfl ?_
      refine zs_goto (tgt := 139) dX16_gives_135 (by decide) ?_
      refine zs_iadd (n := 140) dX16_gives_139 rfl ?_
      refine zs_puti (n := 143) dX16_gives_140 pf_X16_gives_251 (hR.kA' hj) ⟨rfl, rfl⟩ rfl ?_
      have hI88 := hI88.sI (k := 550) (v := ((sV (fGv1 S (1160 + 8 * i + k) a (fAllM S (1160 + 8 * i + k) a / 2) j) (1140 + j) 550) + ((fAllM S (1160 + 8 * i + k) a / 2) / (fGvP S a)))) (hR.nt (r := (1140 + j)) hI88.1 (lvA' hj)) (by decide)
      have hR := hR.sI (s := (1140 + j)) (k := 550) (v := ((sV (fGv1 S (1160 + 8 * i + k) a (fAllM S (1160 + 8 * i + k) a / 2) j) (1140 + j) 550) + ((fAllM S (1160 + 8 * i + k) a / 2) / (fGvP S a)))) (lvA' hj) (by decide) (by decide) (by decide)
      revert hR hI88
      generalize sI M (Λ (1140 + j)) 550 ((sV (fGv1 S (1160 + 8 * i + k) a (fAllM S (1160 + 8 * i + k) a / 2) j) (1140 + j) 550) + ((fAllM S (1160 + 8 * i + k) a / 2) / (fGvP S a))) = M
      intro hI88 hR
      refine zs_goto (tgt := 93) dX16_gives_143 (by decide) ?_
      refine zX.sub (L' := [(0, .ref (Λ 1001)), (1, .ref (Λ (1160 + 8 * i + k))), (2, .ref (Λ (1140 + a))), (3, .int (nI m)), (4, .int ((((sV S (1160 + 8 * i + k) 611) * (3 : Int32)) * (sV S (1140 + a) 547)) / (100 : Int32))), (5, .int (((sV S (1160 + 8 * i + k) 611) - ((((sV S (1160 + 8 * i + k) 611) * (3 : Int32)) * (sV S (1140 + a) 547)) / (100 : Int32))) * ((sV S (1140 + a) 546) + (sV S (1140 + a) 547)))), (6, .int ((fAllM S (1160 + 8 * i + k) a / 2) / (fGvP S a))), (7, .ref q88)]) ⟨rfl, rfl, rfl, rfl, rfl, rfl, rfl, rfl, trivial⟩ ?_
      have hR : zRp Z Λ (fGv1 S (1160 + 8 * i + k) a (fAllM S (1160 + 8 * i + k) a / 2) (j + 1)) M := by
        show zRp Z Λ (sc S, u2 (sV (fGv1 S (1160 + 8 * i + k) a (fAllM S (1160 + 8 * i + k) a / 2) j)) (1140 + j) 550 (sV (fGv1 S (1160 + 8 * i + k) a (fAllM S (1160 + 8 * i + k) a / 2) j) (1140 + j) 550 + (if sV (fGv1 S (1160 + 8 * i + k) a (fAllM S (1160 + 8 * i + k) a / 2) j) (1140 + j) 551 = (sV S (1140 + a) 551) then (fAllM S (1160 + 8 * i + k) a / 2) / fGvP S a else 0)), sW S, sT S, sP S) M
        first
        | (rw [if_pos h130]; exact hR)
        | (rw [if_neg h130]; exact hR)
      exact ih M ⟨hR, hI88⟩
  · intro M hR9
    obtain ⟨hR, hI88⟩ := hR9
    have hb993 : sc S 1001 ≤ _ := hR.bnd.2.1.2.1
    refine zs_aload (n := 95) dX16_gives_93 rfl rfl ?_
    refine zi_has (r := 1017) (j := sc S 1001) (n := 100) dX16_gives_95 rfl hR (lvM h4 (by omega)) rfl hI88 (by rw [show zct (sc (fGv1 S (1160 + 8 * i + k) a (fAllM S (1160 + 8 * i + k) a / 2) (sc S 1001))) 1017 = sc S 1001 from rfl]; omega) (by simp) (by omega) rfl ?_
    rw [show zct (sc (fGv1 S (1160 + 8 * i + k) a (fAllM S (1160 + 8 * i + k) a / 2) (sc S 1001))) 1017 = sc S 1001 from rfl]
    refine zs_if_eq (tgt := 146) (n := 103) dX16_gives_100 (by decide) rfl (fun _ => ?_) (fun h => absurd (zb0.mpr (by rw [decide_eq_true rfl]; rfl)) h)
    refine zs_aload_n (n := 147) dX16_gives_146 rfl rfl ?_
    refine zs_dup (n := 148) dX16_gives_147 rfl rfl ?_
    refine zs_getv (x := (sV (fGv1 S (1160 + 8 * i + k) a (fAllM S (1160 + 8 * i + k) a / 2) (sc S 1001)) (1140 + a) 550)) (n := 151) dX16_gives_148 gf_X16_251 (hR.kA' ha) (hR.iv (lvA' ha) (by decide) (by decide)) rfl ?_
    refine zs_aload_n (n := 152) dX16_gives_151 rfl rfl ?_
    refine zs_getv (x := (sV (fGv1 S (1160 + 8 * i + k) a (fAllM S (1160 + 8 * i + k) a / 2) (sc S 1001)) (1160 + 8 * i + k) 613)) (n := 155) dX16_gives_152 gf_X16_266 (hR.kK' hi hk) (hR.iv (lvK' hi hk) (by decide) (by decide)) rfl ?_
    rw [show (sV (fGv1 S (1160 + 8 * i + k) a (fAllM S (1160 + 8 * i + k) a / 2) (sc S 1001)) (1160 + 8 * i + k) 613) = (fAllM S (1160 + 8 * i + k) a / 2) from fGv1_t]
    refine zs_iload (n := 157) dX16_gives_155 rfl rfl ?_
    refine zs_aload_n (n := 158) dX16_gives_157 rfl rfl ?_
    refine zs_aload_n (n := 159) dX16_gives_158 rfl rfl ?_
    refine zs_getv (x := (sV (fGv1 S (1160 + 8 * i + k) a (fAllM S (1160 + 8 * i + k) a / 2) (sc S 1001)) (1140 + a) 551)) (n := 162) dX16_gives_159 gf_X16_205 (hR.kA' ha) (hR.iv (lvA' ha) (by decide) (by decide)) rfl ?_
    rw [show (sV (fGv1 S (1160 + 8 * i + k) a (fAllM S (1160 + 8 * i + k) a / 2) (sc S 1001)) (1140 + a) 551) = (sV S (1140 + a) 551) from fGv1_g]
    refine zg_V (n := 165) (As := [.int (sV S (1140 + a) 551)]) (ci := 21) (mc := 1) (ms := 4) dX16_gives_162 ok_X16_partners ⟨ml_X16_208, im_X16_partners, sl_X16_partners⟩ rfl (hR.kd (lvM h4 (by omega))) rfl (Nat.le_of_ble_eq_true rfl) (by simp) (by omega) (Nat.le_refl _) (Nat.le_refl _) rfl rfl (k_partners hR h4) ?_
    intro M hR
    rw [show fGrp (sV (fGv1 S (1160 + 8 * i + k) a (fAllM S (1160 + 8 * i + k) a / 2) (sc S 1001))) (sV S (1140 + a) 551) (sc (fGv1 S (1160 + 8 * i + k) a (fAllM S (1160 + 8 * i + k) a / 2) (sc S 1001)) 1001) = fGvP S a from fGrp_w (fun b => fGv1_g) _]
    refine zs_imul (n := 166) dX16_gives_165 rfl ?_
    refine zs_isub (n := 167) dX16_gives_166 rfl ?_
    refine zs_iadd (n := 168) dX16_gives_167 rfl ?_
    refine zw_i (r := (1140 + a)) (n := 171) dX16_gives_168 pf_X16_gives_251 hR (lvA' ha) (hR.kA' ha) ⟨rfl, rfl⟩ (by decide) rfl ?_
    intro M hR hv
    refine zs_return dX16_gives_171 rfl ?_
    exact hQ _ hR
  · exact ⟨hR, hI88⟩
theorem k_gives_n {i k a m : Nat} (hR : zRp Z Λ S M) (h4 : sc S 4 = 1) (hi : i < sc S 1000) (hk : k < sc S (1010 + i)) (ha : a < sc S 1001) (hrn : fIn (nI m) (sV S 1001 682) (sV S 1001 683) = false) (hgp : ¬ fGvP S a = 0) : zG Z l 3 mth_X16_gives [.ref (Λ 1001), .ref (Λ (1160 + 8 * i + k)), .ref (Λ (1140 + a)), .int (nI m)] M 3 12 none (zRp Z Λ (wV S (fGv S (1160 + 8 * i + k) a (fAllM S (1160 + 8 * i + k) a)))) := by
  intro Q hQ
  have hb1 : sc S 1000 ≤ 6 := hR.bnd.2.1.1
  have hb3 := hR.bnd.2.2 i
  have hb2 : sc S 1001 ≤ 8 := hR.bnd.2.1.2.1
  show zX Z l 3 mth_X16_gives 0 [(0, .ref (Λ 1001)), (1, .ref (Λ (1160 + 8 * i + k))), (2, .ref (Λ (1140 + a))), (3, .int (nI m))] [] M 3 12 Q
  refine zs_aload_n (n := 1) dX16_gives_0 rfl rfl ?_
  refine zs_getv (x := (sV S (1160 + 8 * i + k) 611)) (n := 4) dX16_gives_1 gf_X16_257 (hR.kK' hi hk) (hR.iv (lvK' hi hk) (by decide) (by decide)) rfl ?_
  refine zs_iconst (v := 3) (n := 5) dX16_gives_4 (by decide) rfl ?_
  refine zs_imul (n := 6) dX16_gives_5 rfl ?_
  refine zs_aload_n (n := 7) dX16_gives_6 rfl rfl ?_
  refine zs_getv (x := (sV S (1140 + a) 547)) (n := 10) dX16_gives_7 gf_X16_122 (hR.kA' ha) (hR.iv (lvA' ha) (by decide) (by decide)) rfl ?_
  refine zs_imul (n := 11) dX16_gives_10 rfl ?_
  refine zs_bipush (v := 100) (n := 13) dX16_gives_11 (by decide) rfl ?_
  refine zs_idiv (n := 14) dX16_gives_13 (by decide) rfl ?_
  refine zs_istore (n := 16) dX16_gives_14 (by decide) rfl ?_
  refine zs_aload_n (n := 17) dX16_gives_16 rfl rfl ?_
  refine zs_getv (x := (sV S (1160 + 8 * i + k) 611)) (n := 20) dX16_gives_17 gf_X16_257 (hR.kK' hi hk) (hR.iv (lvK' hi hk) (by decide) (by decide)) rfl ?_
  refine zs_iload (n := 22) dX16_gives_20 rfl rfl ?_
  refine zs_isub (n := 23) dX16_gives_22 rfl ?_
  refine zs_aload_n (n := 24) dX16_gives_23 rfl rfl ?_
  refine zs_getv (x := (sV S (1140 + a) 546)) (n := 27) dX16_gives_24 gf_X16_260 (hR.kA' ha) (hR.iv (lvA' ha) (by decide) (by decide)) rfl ?_
  refine zs_aload_n (n := 28) dX16_gives_27 rfl rfl ?_
  refine zs_getv (x := (sV S (1140 + a) 547)) (n := 31) dX16_gives_28 gf_X16_122 (hR.kA' ha) (hR.iv (lvA' ha) (by decide) (by decide)) rfl ?_
  refine zs_iadd (n := 32) dX16_gives_31 rfl ?_
  refine zs_imul (n := 33) dX16_gives_32 rfl ?_
  refine zs_istore (n := 35) dX16_gives_33 (by decide) rfl ?_
  refine zs_aload_n (n := 36) dX16_gives_35 rfl rfl ?_
  refine zs_aload_n (n := 37) dX16_gives_36 rfl rfl ?_
  refine zs_iload_n (n := 38) dX16_gives_37 rfl rfl ?_
  refine zc_V (n := 41) (As := [.int (nI m)]) (ci := 21) (mc := 0) (ms := 0) dX16_gives_38 ok_X16_rains ⟨ml_X16_263, im_X16_rains, sl_X16_rains⟩ rfl (hR.kd (lvM h4 (by omega))) rfl (Nat.le_of_ble_eq_true rfl) (by simp) (by omega) (Nat.le_refl _) (Nat.le_refl _) rfl rfl (k_rains hR h4) ?_
  refine zs_if_eq (tgt := 51) (n := 44) dX16_gives_41 (by decide) rfl (fun _ => ?_) (fun h => absurd (zb0.mpr hrn) h)
  refine zs_iload (n := 53) dX16_gives_51 rfl rfl ?_
  rw [show (((sV S (1160 + 8 * i + k) 611) - ((((sV S (1160 + 8 * i + k) 611) * (3 : Int32)) * (sV S (1140 + a) 547)) / (100 : Int32))) * ((sV S (1140 + a) 546) + (sV S (1140 + a) 547))) = (fAllM S (1160 + 8 * i + k) a) from rfl]
  refine zw_i (r := (1160 + 8 * i + k)) (n := 56) dX16_gives_53 pf_X16_gives_266 hR (lvK' hi hk) (hR.kK' hi hk) ⟨rfl, rfl⟩ (by decide) rfl ?_
  intro M hR hv
  refine zs_aload_n (n := 57) dX16_gives_56 rfl rfl ?_
  refine zs_dup (n := 58) dX16_gives_57 rfl rfl ?_
  refine zs_getv (x := (sV S 1001 688)) (n := 61) dX16_gives_58 gf_X16_269 (hR.kd (lvM h4 (by omega))) (hR.iv (lvM h4 (by omega)) (by decide) (by decide)) rfl ?_
  refine zs_aload_n (n := 62) dX16_gives_61 rfl rfl ?_
  refine zs_getv (x := ((u2 (sV S) (1160 + 8 * i + k) 613 (fAllM S (1160 + 8 * i + k) a)) (1160 + 8 * i + k) 613)) (n := 65) dX16_gives_62 gf_X16_266 (hR.kK' hi hk) (hR.iv (lvK' hi hk) (by decide) (by decide)) rfl ?_
  rw [show ((u2 (sV S) (1160 + 8 * i + k) 613 (fAllM S (1160 + 8 * i + k) a)) (1160 + 8 * i + k) 613) = (fAllM S (1160 + 8 * i + k) a) from u2_at]
  refine zs_iadd (n := 66) dX16_gives_65 rfl ?_
  refine zw_i (r := 1001) (n := 69) dX16_gives_66 pf_X16_gives_269 hR (lvM h4 (by omega)) (hR.kd (lvM h4 (by omega))) ⟨rfl, rfl⟩ (by decide) rfl ?_
  intro M hR hv
  have hR : zRp Z Λ (fGv0 S (1160 + 8 * i + k) (fAllM S (1160 + 8 * i + k) a)) M := hR
  refine zs_aload_n (n := 70) dX16_gives_69 rfl rfl ?_
  refine zs_getv (x := (sV (fGv0 S (1160 + 8 * i + k) (fAllM S (1160 + 8 * i + k) a)) (1160 + 8 * i + k) 613)) (n := 73) dX16_gives_70 gf_X16_266 (hR.kK' hi hk) (hR.iv (lvK' hi hk) (by decide) (by decide)) rfl ?_
  rw [show (sV (fGv0 S (1160 + 8 * i + k) (fAllM S (1160 + 8 * i + k) a)) (1160 + 8 * i + k) 613) = (fAllM S (1160 + 8 * i + k) a) from fGv0_t]
  refine zs_aload_n (n := 74) dX16_gives_73 rfl rfl ?_
  refine zs_aload_n (n := 75) dX16_gives_74 rfl rfl ?_
  refine zs_getv (x := (sV (fGv0 S (1160 + 8 * i + k) (fAllM S (1160 + 8 * i + k) a)) (1140 + a) 551)) (n := 78) dX16_gives_75 gf_X16_205 (hR.kA' ha) (hR.iv (lvA' ha) (by decide) (by decide)) rfl ?_
  rw [show (sV (fGv0 S (1160 + 8 * i + k) (fAllM S (1160 + 8 * i + k) a)) (1140 + a) 551) = (sV S (1140 + a) 551) from fGv0_g]
  refine zg_V (n := 81) (As := [.int (sV S (1140 + a) 551)]) (ci := 21) (mc := 1) (ms := 4) dX16_gives_78 ok_X16_partners ⟨ml_X16_208, im_X16_partners, sl_X16_partners⟩ rfl (hR.kd (lvM h4 (by omega))) rfl (Nat.le_of_ble_eq_true rfl) (by simp) (by omega) (Nat.le_refl _) (Nat.le_refl _) rfl rfl (k_partners hR h4) ?_
  intro M hR
  rw [show fGrp (sV (fGv0 S (1160 + 8 * i + k) (fAllM S (1160 + 8 * i + k) a))) (sV S (1140 + a) 551) (sc (fGv0 S (1160 + 8 * i + k) (fAllM S (1160 + 8 * i + k) a)) 1001) = fGvP S a from fGrp_w (fun b => fGv0_g) _]
  refine zs_idiv (n := 82) dX16_gives_81 hgp rfl ?_
  refine zs_istore (n := 84) dX16_gives_82 (by decide) rfl ?_
  refine zs_aload_n (n := 85) dX16_gives_84 rfl rfl ?_
  refine zs_getr (b := (Λ 1017)) (n := 88) dX16_gives_85 gf_X16_16 (hR.kd (lvM h4 (by omega))) (hR.pt (lvM h4 (by omega)) rfl (by decide)) rfl ?_
  refine zi_new (r := 1017) (nc1 := 1) (ns1 := 4) (n := 91) 3000 dX16_gives_88 rfl hR (lvM h4 (by omega)) rfl (by decide) (by simp) (by omega) (by omega) (by omega) rfl ?_
  intro q88 M hR1 hI88 hq88 hag88
  have hR := hR1
  refine zs_astore (n := 93) dX16_gives_91 (by decide) rfl ?_
  refine zX.sub (L' := [(0, .ref (Λ 1001)), (1, .ref (Λ (1160 + 8 * i + k))), (2, .ref (Λ (1140 + a))), (3, .int (nI m)), (4, .int ((((sV S (1160 + 8 * i + k) 611) * (3 : Int32)) * (sV S (1140 + a) 547)) / (100 : Int32))), (5, .int (((sV S (1160 + 8 * i + k) 611) - ((((sV S (1160 + 8 * i + k) 611) * (3 : Int32)) * (sV S (1140 + a) 547)) / (100 : Int32))) * ((sV S (1140 + a) 546) + (sV S (1140 + a) 547)))), (6, .int ((fAllM S (1160 + 8 * i + k) a) / (fGvP S a))), (7, .ref q88)]) ⟨rfl, rfl, rfl, rfl, rfl, rfl, rfl, rfl, trivial⟩ ?_
  refine zloop (n := sc S 1001) (X := fun j => ∀ M, zRp Z Λ (fGv1 S (1160 + 8 * i + k) a (fAllM S (1160 + 8 * i + k) a) j) M ∧ zIt M q88 (Λ 1017) j 3000 → zX Z l 3 mth_X16_gives 93 [(0, .ref (Λ 1001)), (1, .ref (Λ (1160 + 8 * i + k))), (2, .ref (Λ (1140 + a))), (3, .int (nI m)), (4, .int ((((sV S (1160 + 8 * i + k) 611) * (3 : Int32)) * (sV S (1140 + a) 547)) / (100 : Int32))), (5, .int (((sV S (1160 + 8 * i + k) 611) - ((((sV S (1160 + 8 * i + k) 611) * (3 : Int32)) * (sV S (1140 + a) 547)) / (100 : Int32))) * ((sV S (1140 + a) 546) + (sV S (1140 + a) 547)))), (6, .int ((fAllM S (1160 + 8 * i + k) a) / (fGvP S a))), (7, .ref q88)] [] M 1 4 Q) (fun j hj ih => ?_) ?_ 0 (Nat.zero_le _) M ?_
  · intro M hR9
    obtain ⟨hR, hI88⟩ := hR9
    have hb993 : sc S 1001 ≤ _ := hR.bnd.2.1.2.1
    refine zs_aload (n := 95) dX16_gives_93 rfl rfl ?_
    refine zi_has (r := 1017) (j := j) (n := 100) dX16_gives_95 rfl hR (lvM h4 (by omega)) rfl hI88 (by rw [show zct (sc (fGv1 S (1160 + 8 * i + k) a (fAllM S (1160 + 8 * i + k) a) j)) 1017 = sc S 1001 from rfl]; omega) (by simp) (by omega) rfl ?_
    rw [show zct (sc (fGv1 S (1160 + 8 * i + k) a (fAllM S (1160 + 8 * i + k) a) j)) 1017 = sc S 1001 from rfl]
    refine zs_if_eq (tgt := 146) (n := 103) dX16_gives_100 (by decide) rfl (fun h => absurd h (zb1.mpr (by rw [decide_eq_false (by omega)]; rfl))) (fun _ => ?_)
    refine zs_aload (n := 105) dX16_gives_103 rfl rfl ?_
    refine zi_next (r := 1017) (j := j) (b := (Λ (1140 + j))) (n := 110) dX16_gives_105 rfl hR (lvM h4 (by omega)) rfl hI88 (by rw [show zct (sc (fGv1 S (1160 + 8 * i + k) a (fAllM S (1160 + 8 * i + k) a) j)) 1017 = sc S 1001 from rfl]; exact hj) rfl (by simp) (by omega) rfl ?_
    intro M hR1 hI88n hag105
    have hI88 := hI88n
    have hR := hR1
    refine zs_castS (ci := 17) (n := 113) dX16_gives_110 rfl cl_X16_111 (hR.kA' hj) rfl ?_
    refine zs_astore (n := 115) dX16_gives_113 (by decide) rfl ?_
    refine zs_aload (n := 117) dX16_gives_115 rfl rfl ?_
    refine zs_dup (n := 118) dX16_gives_117 rfl rfl ?_
    refine zs_getv (x := (sV (fGv1 S (1160 + 8 * i + k) a (fAllM S (1160 + 8 * i + k) a) j) (1140 + j) 550)) (n := 121) dX16_gives_118 gf_X16_251 (hR.kA' hj) (hR.iv (lvA' hj) (by decide) (by decide)) rfl ?_
    refine zs_aload (n := 123) dX16_gives_121 rfl rfl ?_
    refine zs_getv (x := (sV (fGv1 S (1160 + 8 * i + k) a (fAllM S (1160 + 8 * i + k) a) j) (1140 + j) 551)) (n := 126) dX16_gives_123 gf_X16_205 (hR.kA' hj) (hR.iv (lvA' hj) (by decide) (by decide)) rfl ?_
    refine zs_aload_n (n := 127) dX16_gives_126 rfl rfl ?_
    refine zs_getv (x := (sV (fGv1 S (1160 + 8 * i + k) a (fAllM S (1160 + 8 * i + k) a) j) (1140 + a) 551)) (n := 130) dX16_gives_127 gf_X16_205 (hR.kA' ha) (hR.iv (lvA' ha) (by decide) (by decide)) rfl ?_
    rw [show (sV (fGv1 S (1160 + 8 * i + k) a (fAllM S (1160 + 8 * i + k) a) j) (1140 + a) 551) = (sV S (1140 + a) 551) from fGv1_g]
    refine zs_icmp_ne (tgt := 138) (n := 133) dX16_gives_130 (by decide) rfl (fun h130 => ?_) (fun h130 => ?_)
    · refine zs_iconst (v := 0) (n := 139) dX16_gives_138 (by decide) rfl ?_
      refine zs_iadd (n := 140) dX16_gives_139 rfl ?_
      refine zs_puti (n := 143) dX16_gives_140 pf_X16_gives_251 (hR.kA' hj) ⟨rfl, rfl⟩ rfl ?_
      have hI88 := hI88.sI (k := 550) (v := ((sV (fGv1 S (1160 + 8 * i + k) a (fAllM S (1160 + 8 * i + k) a) j) (1140 + j) 550) + (0 : Int32))) (hR.nt (r := (1140 + j)) hI88.1 (lvA' hj)) (by decide)
      have hR := hR.sI (s := (1140 + j)) (k := 550) (v := ((sV (fGv1 S (1160 + 8 * i + k) a (fAllM S (1160 + 8 * i + k) a) j) (1140 + j) 550) + (0 : Int32))) (lvA' hj) (by decide) (by decide) (by decide)
      revert hR hI88
      generalize sI M (Λ (1140 + j)) 550 ((sV (fGv1 S (1160 + 8 * i + k) a (fAllM S (1160 + 8 * i + k) a) j) (1140 + j) 550) + (0 : Int32)) = M
      intro hI88 hR
      refine zs_goto (tgt := 93) dX16_gives_143 (by decide) ?_
      refine zX.sub (L' := [(0, .ref (Λ 1001)), (1, .ref (Λ (1160 + 8 * i + k))), (2, .ref (Λ (1140 + a))), (3, .int (nI m)), (4, .int ((((sV S (1160 + 8 * i + k) 611) * (3 : Int32)) * (sV S (1140 + a) 547)) / (100 : Int32))), (5, .int (((sV S (1160 + 8 * i + k) 611) - ((((sV S (1160 + 8 * i + k) 611) * (3 : Int32)) * (sV S (1140 + a) 547)) / (100 : Int32))) * ((sV S (1140 + a) 546) + (sV S (1140 + a) 547)))), (6, .int ((fAllM S (1160 + 8 * i + k) a) / (fGvP S a))), (7, .ref q88)]) ⟨rfl, rfl, rfl, rfl, rfl, rfl, rfl, rfl, trivial⟩ ?_
      have hR : zRp Z Λ (fGv1 S (1160 + 8 * i + k) a (fAllM S (1160 + 8 * i + k) a) (j + 1)) M := by
        show zRp Z Λ (sc S, u2 (sV (fGv1 S (1160 + 8 * i + k) a (fAllM S (1160 + 8 * i + k) a) j)) (1140 + j) 550 (sV (fGv1 S (1160 + 8 * i + k) a (fAllM S (1160 + 8 * i + k) a) j) (1140 + j) 550 + (if sV (fGv1 S (1160 + 8 * i + k) a (fAllM S (1160 + 8 * i + k) a) j) (1140 + j) 551 = (sV S (1140 + a) 551) then (fAllM S (1160 + 8 * i + k) a) / fGvP S a else 0)), sW S, sT S, sP S) M
        first
        | (rw [if_pos h130]; exact hR)
        | (rw [if_neg h130]; exact hR)
      exact ih M ⟨hR, hI88⟩
    · refine zs_iload (n := 135) dX16_gives_133 rfl rfl ?_
      refine zs_goto (tgt := 139) dX16_gives_135 (by decide) ?_
      refine zs_iadd (n := 140) dX16_gives_139 rfl ?_
      refine zs_puti (n := 143) dX16_gives_140 pf_X16_gives_251 (hR.kA' hj) ⟨rfl, rfl⟩ rfl ?_
      have hI88 := hI88.sI (k := 550) (v := ((sV (fGv1 S (1160 + 8 * i + k) a (fAllM S (1160 + 8 * i + k) a) j) (1140 + j) 550) + ((fAllM S (1160 + 8 * i + k) a) / (fGvP S a)))) (hR.nt (r := (1140 + j)) hI88.1 (lvA' hj)) (by decide)
      have hR := hR.sI (s := (1140 + j)) (k := 550) (v := ((sV (fGv1 S (1160 + 8 * i + k) a (fAllM S (1160 + 8 * i + k) a) j) (1140 + j) 550) + ((fAllM S (1160 + 8 * i + k) a) / (fGvP S a)))) (lvA' hj) (by decide) (by decide) (by decide)
      revert hR hI88
      generalize sI M (Λ (1140 + j)) 550 ((sV (fGv1 S (1160 + 8 * i + k) a (fAllM S (1160 + 8 * i + k) a) j) (1140 + j) 550) + ((fAllM S (1160 + 8 * i + k) a) / (fGvP S a))) = M
      intro hI88 hR
      refine zs_goto (tgt := 93) dX16_gives_143 (by decide) ?_
      refine zX.sub (L' := [(0, .ref (Λ 1001)), (1, .ref (Λ (1160 + 8 * i + k))), (2, .ref (Λ (1140 + a))), (3, .int (nI m)), (4, .int ((((sV S (1160 + 8 * i + k) 611) * (3 : Int32)) * (sV S (1140 + a) 547)) / (100 : Int32))), (5, .int (((sV S (1160 + 8 * i + k) 611) - ((((sV S (1160 + 8 * i + k) 611) * (3 : Int32)) * (sV S (1140 + a) 547)) / (100 : Int32))) * ((sV S (1140 + a) 546) + (sV S (1140 + a) 547)))), (6, .int ((fAllM S (1160 + 8 * i + k) a) / (fGvP S a))), (7, .ref q88)]) ⟨rfl, rfl, rfl, rfl, rfl, rfl, rfl, rfl, trivial⟩ ?_
      have hR : zRp Z Λ (fGv1 S (1160 + 8 * i + k) a (fAllM S (1160 + 8 * i + k) a) (j + 1)) M := by
        show zRp Z Λ (sc S, u2 (sV (fGv1 S (1160 + 8 * i + k) a (fAllM S (1160 + 8 * i + k) a) j)) (1140 + j) 550 (sV (fGv1 S (1160 + 8 * i + k) a (fAllM S (1160 + 8 * i + k) a) j) (1140 + j) 550 + (if sV (fGv1 S (1160 + 8 * i + k) a (fAllM S (1160 + 8 * i + k) a) j) (1140 + j) 551 = (sV S (1140 + a) 551) then (fAllM S (1160 + 8 * i + k) a) / fGvP S a else 0)), sW S, sT S, sP S) M
        first
        | (rw [if_pos h130]; exact hR)
        | (rw [if_neg h130]; exact hR)
      exact ih M ⟨hR, hI88⟩
  · intro M hR9
    obtain ⟨hR, hI88⟩ := hR9
    have hb993 : sc S 1001 ≤ _ := hR.bnd.2.1.2.1
    refine zs_aload (n := 95) dX16_gives_93 rfl rfl ?_
    refine zi_has (r := 1017) (j := sc S 1001) (n := 100) dX16_gives_95 rfl hR (lvM h4 (by omega)) rfl hI88 (by rw [show zct (sc (fGv1 S (1160 + 8 * i + k) a (fAllM S (1160 + 8 * i + k) a) (sc S 1001))) 1017 = sc S 1001 from rfl]; omega) (by simp) (by omega) rfl ?_
    rw [show zct (sc (fGv1 S (1160 + 8 * i + k) a (fAllM S (1160 + 8 * i + k) a) (sc S 1001))) 1017 = sc S 1001 from rfl]
    refine zs_if_eq (tgt := 146) (n := 103) dX16_gives_100 (by decide) rfl (fun _ => ?_) (fun h => absurd (zb0.mpr (by rw [decide_eq_true rfl]; rfl)) h)
    refine zs_aload_n (n := 147) dX16_gives_146 rfl rfl ?_
    refine zs_dup (n := 148) dX16_gives_147 rfl rfl ?_
    refine zs_getv (x := (sV (fGv1 S (1160 + 8 * i + k) a (fAllM S (1160 + 8 * i + k) a) (sc S 1001)) (1140 + a) 550)) (n := 151) dX16_gives_148 gf_X16_251 (hR.kA' ha) (hR.iv (lvA' ha) (by decide) (by decide)) rfl ?_
    refine zs_aload_n (n := 152) dX16_gives_151 rfl rfl ?_
    refine zs_getv (x := (sV (fGv1 S (1160 + 8 * i + k) a (fAllM S (1160 + 8 * i + k) a) (sc S 1001)) (1160 + 8 * i + k) 613)) (n := 155) dX16_gives_152 gf_X16_266 (hR.kK' hi hk) (hR.iv (lvK' hi hk) (by decide) (by decide)) rfl ?_
    rw [show (sV (fGv1 S (1160 + 8 * i + k) a (fAllM S (1160 + 8 * i + k) a) (sc S 1001)) (1160 + 8 * i + k) 613) = (fAllM S (1160 + 8 * i + k) a) from fGv1_t]
    refine zs_iload (n := 157) dX16_gives_155 rfl rfl ?_
    refine zs_aload_n (n := 158) dX16_gives_157 rfl rfl ?_
    refine zs_aload_n (n := 159) dX16_gives_158 rfl rfl ?_
    refine zs_getv (x := (sV (fGv1 S (1160 + 8 * i + k) a (fAllM S (1160 + 8 * i + k) a) (sc S 1001)) (1140 + a) 551)) (n := 162) dX16_gives_159 gf_X16_205 (hR.kA' ha) (hR.iv (lvA' ha) (by decide) (by decide)) rfl ?_
    rw [show (sV (fGv1 S (1160 + 8 * i + k) a (fAllM S (1160 + 8 * i + k) a) (sc S 1001)) (1140 + a) 551) = (sV S (1140 + a) 551) from fGv1_g]
    refine zg_V (n := 165) (As := [.int (sV S (1140 + a) 551)]) (ci := 21) (mc := 1) (ms := 4) dX16_gives_162 ok_X16_partners ⟨ml_X16_208, im_X16_partners, sl_X16_partners⟩ rfl (hR.kd (lvM h4 (by omega))) rfl (Nat.le_of_ble_eq_true rfl) (by simp) (by omega) (Nat.le_refl _) (Nat.le_refl _) rfl rfl (k_partners hR h4) ?_
    intro M hR
    rw [show fGrp (sV (fGv1 S (1160 + 8 * i + k) a (fAllM S (1160 + 8 * i + k) a) (sc S 1001))) (sV S (1140 + a) 551) (sc (fGv1 S (1160 + 8 * i + k) a (fAllM S (1160 + 8 * i + k) a) (sc S 1001)) 1001) = fGvP S a from fGrp_w (fun b => fGv1_g) _]
    refine zs_imul (n := 166) dX16_gives_165 rfl ?_
    refine zs_isub (n := 167) dX16_gives_166 rfl ?_
    refine zs_iadd (n := 168) dX16_gives_167 rfl ?_
    refine zw_i (r := (1140 + a)) (n := 171) dX16_gives_168 pf_X16_gives_251 hR (lvA' ha) (hR.kA' ha) ⟨rfl, rfl⟩ (by decide) rfl ?_
    intro M hR hv
    refine zs_return dX16_gives_171 rfl ?_
    exact hQ _ hR
  · exact ⟨hR, hI88⟩
end ZMOD11
