/-! WAYS: how many orders go on behind a set; which order has which number; lots -/
section ZWAYS
variable {Z : zPar} {l : Launch} {Λ : Nat → Nat} {S : zSt} {M : zMem}
abbrev wW (S : zSt) (W : Nat → Nat → Int32) : zSt := (sc S, sV S, W, sT S, sP S)
abbrev wV (S : zSt) (V : Nat → Nat → Int32) : zSt := (sc S, V, sW S, sT S, sP S)
theorem zbit_pow : ∀ n, n < 31 → (1 : Int32) <<< (nI n &&& 31) = nI (2 ^ n) := by decide +kernel
theorem zor_bit {p a : Nat} (ha : a < 31) : nI p ||| (1 : Int32) <<< (nI a &&& 31) = nI (p ||| 2 ^ a) := by
  rw [zbit_pow a ha]
  show Int32.ofNat p ||| Int32.ofNat (2 ^ a) = Int32.ofNat (p ||| 2 ^ a)
  exact Int32.toBitVec_inj.mp (by
    rw [Int32.toBitVec_or]
    show BitVec.ofNat 32 p ||| BitVec.ofNat 32 (2 ^ a) = BitVec.ofNat 32 (p ||| 2 ^ a)
    exact BitVec.eq_of_getLsbD_eq (fun i hi => by simp [BitVec.getLsbD_or, BitVec.getLsbD_ofNat, hi, Nat.testBit_or]))
theorem zor_lt {p a : Nat} (hp : p < 256) (ha : a < 8) : p ||| 2 ^ a < 256 := Nat.or_lt_two_pow (n := 8) hp (Nat.pow_lt_pow_right (by decide) ha)
def fSumK (S : zSt) (p k : Nat) : Int32 := zit (fun a s => s + (if fNext S a (nI p) = true then sW S 10 (p ||| 2 ^ a) else 0)) k 0
def fWay (S : zSt) (n F j : Nat) : Nat → Nat → Int32 := zit (fun j W => u2 W 10 (F - 1 - j) (fSumK (wW S W) (F - 1 - j) n)) j (u2 (sW S) 10 F 1)
theorem c_fillWays {n F : Nat} (hR : zRp Z Λ S M) (h3 : sc S 3 = 1) (hn : n ≤ 8) (hF : F + 1 = 2 ^ n) : zG Z l 1 mth_X1_fillWays [.ref (Λ 3), .int (nI n)] M 0 0 none (zRp Z Λ (wW S (fWay S n F F))) := by
  intro Q hQ
  have hp : 2 ^ n ≤ 2 ^ 8 := Nat.pow_le_pow_right (by decide) hn
  have hF2 : F < 256 := by omega
  show zX Z l 1 mth_X1_fillWays 0 [(0, .ref (Λ 3)), (1, .int (nI n))] [] M 0 0 Q
  refine zs_iconst (v := 1) (n := 1) dX1_fillWays_0 (by decide) rfl ?_
  refine zs_iload_n (n := 2) dX1_fillWays_1 rfl rfl ?_
  refine zs_ishl (n := 3) dX1_fillWays_2 rfl ?_
  refine zs_iconst (v := 1) (n := 4) dX1_fillWays_3 (by decide) rfl ?_
  refine zs_isub (n := 5) dX1_fillWays_4 rfl ?_
  rw [show (1 : Int32) <<< (nI n &&& 31) - 1 = nI F from by rw [zbit_pow n (by omega), show (1 : Int32) = nI 1 from rfl, pk_sub (by omega), ← hF]; rfl]
  refine zs_istore_n (n := 6) dX1_fillWays_5 (by decide) rfl ?_
  refine zs_aload_n (n := 7) dX1_fillWays_6 rfl rfl ?_
  refine zs_getr (b := (Λ 10)) (n := 10) dX1_fillWays_7 gf_X1_15 (hR.kd (lvC h3 (by omega))) (hR.pt (lvC h3 (by omega)) rfl (by decide)) rfl ?_
  refine zs_iload_n (n := 11) dX1_fillWays_10 rfl rfl ?_
  refine zs_iconst (v := 1) (n := 12) dX1_fillWays_11 (by decide) rfl ?_
  refine zw_ai (r := 10) (n := 13) dX1_fillWays_12 hR (lvC h3 (by omega)) (hR.kd (lvC h3 (by omega))) (by rw [show mN M (Λ 10) = 256 from (hR.ln (lvC h3 (by omega)) rfl (by decide))]; exact vp_in_nI (by first | exact hF2 | omega) (by omega)) rfl ?_
  rw [nI_clamp (by omega)]
  intro M hR hv
  refine zs_iload_n (n := 14) dX1_fillWays_13 rfl rfl ?_
  refine zs_iconst (v := 1) (n := 15) dX1_fillWays_14 (by decide) rfl ?_
  refine zs_isub (n := 16) dX1_fillWays_15 rfl ?_
  refine zs_istore_n (n := 17) dX1_fillWays_16 (by decide) rfl ?_
  refine zX.sub (L' := [(0, .ref (Λ 3)), (1, .int (nI n)), (2, .int (nI F)), (3, .int (nI (F - 0) - 1))]) ⟨rfl, rfl, rfl, rfl, trivial⟩ ?_
  refine zloop (n := F) (X := fun j => ∀ M, zRp Z Λ (wW S (fWay S n F j)) M → zX Z l 1 mth_X1_fillWays 17 [(0, .ref (Λ 3)), (1, .int (nI n)), (2, .int (nI F)), (3, .int (nI (F - j) - 1))] [] M 0 0 Q) (fun j hj ih => ?_) ?_ 0 (Nat.zero_le _) M ?_
  · intro M hR
    rw [show nI (F - j) - 1 = nI (F - 1 - j) from by rw [show (1 : Int32) = nI 1 from rfl, pk_sub (by omega), show F - j - 1 = F - 1 - j from by omega]]
    refine zs_iload_n (n := 18) dX1_fillWays_17 rfl rfl ?_
    refine zs_if_lt (tgt := 83) (n := 21) dX1_fillWays_18 (by decide) rfl (fun h => absurd h (nI_pos (by omega))) (fun _ => ?_)
    refine zs_iconst (v := 0) (n := 22) dX1_fillWays_21 (by decide) rfl ?_
    refine zs_istore (n := 24) dX1_fillWays_22 (by decide) rfl ?_
    refine zs_iconst (v := 0) (n := 25) dX1_fillWays_24 (by decide) rfl ?_
    refine zs_istore (n := 27) dX1_fillWays_25 (by decide) rfl ?_
    refine zX.sub (L' := [(0, .ref (Λ 3)), (1, .int (nI n)), (2, .int (nI F)), (3, .int (nI (F - 1 - j))), (4, .int (fSumK (wW S (fWay S n F j)) (F - 1 - j) 0)), (5, .int (nI 0))]) ⟨rfl, rfl, rfl, rfl, rfl, rfl, trivial⟩ ?_
    refine zloop (n := n) (X := fun k => zX Z l 1 mth_X1_fillWays 27 [(0, .ref (Λ 3)), (1, .int (nI n)), (2, .int (nI F)), (3, .int (nI (F - 1 - j))), (4, .int (fSumK (wW S (fWay S n F j)) (F - 1 - j) k)), (5, .int (nI k))] [] M 0 0 Q) (fun k hk ih => ?_) ?_ 0 (Nat.zero_le _)
    · have hk8 : k < 8 := by omega
      have hor := zor_lt (show F - 1 - j < 256 from by omega) hk8
      refine zs_iload (n := 29) dX1_fillWays_27 rfl rfl ?_
      refine zs_iload_n (n := 30) dX1_fillWays_29 rfl rfl ?_
      refine zs_icmp_ge (tgt := 69) (n := 33) dX1_fillWays_30 (by decide) rfl (fun h => absurd h (nI_ge hk (by omega))) (fun _ => ?_)
      refine zs_iload (n := 35) dX1_fillWays_33 rfl rfl ?_
      refine zs_aload_n (n := 36) dX1_fillWays_35 rfl rfl ?_
      refine zs_iload (n := 38) dX1_fillWays_36 rfl rfl ?_
      refine zs_iload_n (n := 39) dX1_fillWays_38 rfl rfl ?_
      refine zc_V (n := 42) (As := [.int (nI k), .int (nI (F - 1 - j))]) (ci := 6) (mc := 0) (ms := 0) dX1_fillWays_39 ok_X1_isNext ⟨ml_X1_22, im_X1_isNext, sl_X1_isNext⟩ rfl (hR.kd (lvC h3 (by omega))) rfl (Nat.le_of_ble_eq_true rfl) (by simp) (by omega) (Nat.le_refl _) (Nat.le_refl _) rfl rfl (c_isNext hR h3 (by omega)) ?_
      refine zs_if_eq (tgt := 59) (n := 45) dX1_fillWays_42 (by decide) rfl (fun h42 => ?_) (fun h42 => ?_)
      · refine zs_iconst (v := 0) (n := 60) dX1_fillWays_59 (by decide) rfl ?_
        refine zs_iadd (n := 61) dX1_fillWays_60 rfl ?_
        refine zs_istore (n := 63) dX1_fillWays_61 (by decide) rfl ?_
        refine zs_iinc (v := (nI (k + 1))) (n := 66) dX1_fillWays_63 rfl (nI_1 _) (by decide) rfl ?_
        refine zs_goto (tgt := 27) dX1_fillWays_66 (by decide) ?_
        refine zX.sub (L' := [(0, .ref (Λ 3)), (1, .int (nI n)), (2, .int (nI F)), (3, .int (nI (F - 1 - j))), (4, .int (fSumK (wW S (fWay S n F j)) (F - 1 - j) (k + 1))), (5, .int (nI (k + 1)))]) ⟨rfl, rfl, rfl, rfl, (show some (Value.int ((fSumK (wW S (fWay S n F j)) (F - 1 - j) k) + (0 : Int32))) = some (Value.int (fSumK (wW S (fWay S n F j)) (F - 1 - j) (k + 1))) from congrArg (fun z => some (Value.int z)) (by rw [show fSumK (wW S (fWay S n F j)) (F - 1 - j) (k + 1) = fSumK (wW S (fWay S n F j)) (F - 1 - j) k + (if fNext (wW S (fWay S n F j)) k (nI (F - 1 - j)) = true then sW (wW S (fWay S n F j)) 10 ((F - 1 - j) ||| 2 ^ k) else 0) from rfl]; cases h9 : fNext (wW S (fWay S n F j)) k (nI (F - 1 - j)) <;> simp_all [zb])), rfl, trivial⟩ ?_
        exact ih
      · refine zs_aload_n (n := 46) dX1_fillWays_45 rfl rfl ?_
        refine zs_getr (b := (Λ 10)) (n := 49) dX1_fillWays_46 gf_X1_15 (hR.kd (lvC h3 (by omega))) (hR.pt (lvC h3 (by omega)) rfl (by decide)) rfl ?_
        refine zs_iload_n (n := 50) dX1_fillWays_49 rfl rfl ?_
        refine zs_iconst (v := 1) (n := 51) dX1_fillWays_50 (by decide) rfl ?_
        refine zs_iload (n := 53) dX1_fillWays_51 rfl rfl ?_
        refine zs_ishl (n := 54) dX1_fillWays_53 rfl ?_
        refine zs_ior (n := 55) dX1_fillWays_54 rfl ?_
        rw [zor_bit (by omega)]
        refine zs_ialdv (x := (sW (wW S (fWay S n F j)) 10 ((F - 1 - j) ||| 2 ^ k))) (n := 56) dX1_fillWays_55 (hR.kd (lvC h3 (by omega))) (by rw [show mN M (Λ 10) = 256 from (hR.ln (lvC h3 (by omega)) rfl (by decide))]; exact vp_in_nI (by first | exact hor | omega) (by omega)) (by rw [nI_clamp (by omega)]; exact hR.av (lvC h3 (by omega))) rfl ?_
        refine zs_goto (tgt := 60) dX1_fillWays_56 (by decide) ?_
        refine zs_iadd (n := 61) dX1_fillWays_60 rfl ?_
        refine zs_istore (n := 63) dX1_fillWays_61 (by decide) rfl ?_
        refine zs_iinc (v := (nI (k + 1))) (n := 66) dX1_fillWays_63 rfl (nI_1 _) (by decide) rfl ?_
        refine zs_goto (tgt := 27) dX1_fillWays_66 (by decide) ?_
        refine zX.sub (L' := [(0, .ref (Λ 3)), (1, .int (nI n)), (2, .int (nI F)), (3, .int (nI (F - 1 - j))), (4, .int (fSumK (wW S (fWay S n F j)) (F - 1 - j) (k + 1))), (5, .int (nI (k + 1)))]) ⟨rfl, rfl, rfl, rfl, (show some (Value.int ((fSumK (wW S (fWay S n F j)) (F - 1 - j) k) + (sW (wW S (fWay S n F j)) 10 ((F - 1 - j) ||| 2 ^ k)))) = some (Value.int (fSumK (wW S (fWay S n F j)) (F - 1 - j) (k + 1))) from congrArg (fun z => some (Value.int z)) (by rw [show fSumK (wW S (fWay S n F j)) (F - 1 - j) (k + 1) = fSumK (wW S (fWay S n F j)) (F - 1 - j) k + (if fNext (wW S (fWay S n F j)) k (nI (F - 1 - j)) = true then sW (wW S (fWay S n F j)) 10 ((F - 1 - j) ||| 2 ^ k) else 0) from rfl]; cases h9 : fNext (wW S (fWay S n F j)) k (nI (F - 1 - j)) <;> simp_all [zb])), rfl, trivial⟩ ?_
        exact ih
    · refine zs_iload (n := 29) dX1_fillWays_27 rfl rfl ?_
      refine zs_iload_n (n := 30) dX1_fillWays_29 rfl rfl ?_
      refine zs_icmp_ge (tgt := 69) (n := 33) dX1_fillWays_30 (by decide) rfl (fun _ => ?_) (fun h => absurd (nI_le (Nat.le_refl _) (by omega)) h)
      refine zs_aload_n (n := 70) dX1_fillWays_69 rfl rfl ?_
      refine zs_getr (b := (Λ 10)) (n := 73) dX1_fillWays_70 gf_X1_15 (hR.kd (lvC h3 (by omega))) (hR.pt (lvC h3 (by omega)) rfl (by decide)) rfl ?_
      refine zs_iload_n (n := 74) dX1_fillWays_73 rfl rfl ?_
      refine zs_iload (n := 76) dX1_fillWays_74 rfl rfl ?_
      refine zw_ai (r := 10) (n := 77) dX1_fillWays_76 hR (lvC h3 (by omega)) (hR.kd (lvC h3 (by omega))) (by rw [show mN M (Λ 10) = 256 from (hR.ln (lvC h3 (by omega)) rfl (by decide))]; exact vp_in_nI (by first | exact (show F - 1 - j < 256 from by omega) | omega) (by omega)) rfl ?_
      rw [nI_clamp (by omega)]
      intro M hR hv
      refine zs_iinc (n := 80) dX1_fillWays_77 rfl rfl (by decide) rfl ?_
      refine zs_goto (tgt := 17) dX1_fillWays_80 (by decide) ?_
      refine zX.sub (L' := [(0, .ref (Λ 3)), (1, .int (nI n)), (2, .int (nI F)), (3, .int (nI (F - (j + 1)) - 1))]) ⟨rfl, rfl, rfl, (show some (Value.int ((nI (F - 1 - j)) + Int32.ofInt (-1))) = some (Value.int (nI (F - (j + 1)) - 1)) from congrArg (fun z => some (Value.int z)) (by rw [show F - (j + 1) = F - 1 - j from by omega, Int32.sub_eq_add_neg]; rfl)), trivial⟩ ?_
      exact ih M hR
  · intro M hR
    refine zs_iload_n (n := 18) dX1_fillWays_17 rfl rfl ?_
    refine zs_if_lt (tgt := 83) (n := 21) dX1_fillWays_18 (by decide) rfl (fun _ => ?_) (fun h => absurd (by rw [Nat.sub_self]; decide) h)
    refine zs_return dX1_fillWays_83 rfl ?_
    exact hQ _ hR
  · exact hR
theorem c_countOrders {n F : Nat} (hR : zRp Z Λ S M) (h3 : sc S 3 = 1) (hn : n ≤ 8) (hF : F + 1 = 2 ^ n) : zG Z l 2 mth_X1_countOrders [.ref (Λ 3), .int (nI n)] M 0 0 (some (.int (fWay S n F F 10 0))) (zRp Z Λ (wW S (fWay S n F F))) := by
  intro Q hQ
  show zX Z l 2 mth_X1_countOrders 0 [(0, .ref (Λ 3)), (1, .int (nI n))] [] M 0 0 Q
  refine zs_aload_n (n := 1) dX1_countOrders_0 rfl rfl ?_
  refine zs_iload_n (n := 2) dX1_countOrders_1 rfl rfl ?_
  refine zg_V (n := 5) (As := [.int (nI n)]) (ci := 6) (mc := 0) (ms := 0) dX1_countOrders_2 ok_X1_fillWays ⟨ml_X1_18, im_X1_fillWays, sl_X1_fillWays⟩ rfl (hR.kd (lvC h3 (by omega))) rfl (Nat.le_of_ble_eq_true rfl) (by simp) (by omega) (Nat.le_refl _) (Nat.le_refl _) rfl rfl (c_fillWays hR h3 hn hF) ?_
  intro M hR
  refine zs_aload_n (n := 6) dX1_countOrders_5 rfl rfl ?_
  refine zs_getr (b := (Λ 10)) (n := 9) dX1_countOrders_6 gf_X1_15 (hR.kd (lvC h3 (by omega))) (hR.pt (lvC h3 (by omega)) rfl (by decide)) rfl ?_
  
  refine zs_iconst (v := nI 0) (n := 10) dX1_countOrders_9 (by decide) rfl ?_
  refine zs_ialdv (x := (sW (wW S (fWay S n F F)) 10 0)) (n := 11) dX1_countOrders_10 (hR.kd (lvC h3 (by omega))) (by rw [show mN M (Λ 10) = 256 from (hR.ln (lvC h3 (by omega)) rfl (by decide))]; exact vp_in_nI (by first | exact (show 0 < 256 from by decide) | omega) (by omega)) (by rw [nI_clamp (by omega)]; exact hR.av (lvC h3 (by omega))) rfl ?_
  refine zs_ireturn dX1_countOrders_11 ⟨_, rfl, rfl⟩ ?_
  exact hQ _ hR
def fZ (z : Int32) : Int32 := (z.toInt64 * 48271 - z.toInt64 * 48271 / 2147483647 * 2147483647).toInt32
theorem fZ_nI {z : Nat} (h : z < 2 ^ 31) : fZ (nI z) = nI (z * 48271 % 2147483647) := by
  unfold fZ
  rw [nI_l h, show (48271 : Int64) = lN 48271 from rfl, show (2147483647 : Int64) = lN 2147483647 from rfl, lN_mul, pk_lRem (by omega) (by omega) (by omega), lN_i]
/-- how many of the first j acts are free -/
def fFc (S : zSt) (p : Int32) (j : Nat) : Nat := zit (fun a c => if fFree S a p = true then c + 1 else c) j 0
theorem fFc_le {S : zSt} {p : Int32} : ∀ j, fFc S p j ≤ j
  | 0 => Nat.le_refl _
  | j + 1 => by
    have := fFc_le (S := S) (p := p) j
    show (if fFree S j p = true then fFc S p j + 1 else fFc S p j) ≤ j + 1
    split <;> omega
def fHat2 (S : zSt) (p : Int32) (j : Nat) : Nat → Nat → Int32 := zit (fun a W => if fFree S a p = true then u2 W 13 (fFc S p a) (nI a) else W) j (sW S)
theorem fHat2_12 {S : zSt} {p : Int32} : ∀ j, fHat2 S p j 12 = sW S 12
  | 0 => rfl
  | j + 1 => by
    show (if fFree S j p = true then u2 (fHat2 S p j) 13 (fFc S p j) (nI j) else fHat2 S p j) 12 = _
    split
    · exact (u2_ne (by decide)).trans (fHat2_12 j)
    · exact fHat2_12 j
theorem fFree_w {S : zSt} {W : Nat → Nat → Int32} {a : Nat} {p : Int32} (h : W 12 = sW S 12) : fFree (wW S W) a p = fFree S a p := by
  unfold fFree
  rw [show sW (wW S W) 12 = sW S 12 from h]
abbrev wZ (S : zSt) (z : Nat) : zSt := wV S (u2 (sV S) 4 325 (nI z))
/-- what is drawn: z is the new number, p those that are left -/
def fOne (S : zSt) (p : Int32) (n z : Nat) : Int32 := if 0 < fFc (wZ S z) p n then fHat2 (wZ S z) p n 13 (z % fFc (wZ S z) p n) else 0
theorem c_drawOne {n zn : Nat} {p : Int32} (hR : zRp Z Λ S M) (h3 : sc S 3 = 1) (hn : n ≤ 8) (hz : sV S 4 325 = nI zn) (hz2 : zn < 2 ^ 31) : zG Z l 1 mth_X5_drawOne [.ref (Λ 4), .int p, .int (nI n)] M 0 0 (some (.int (fOne S p n (zn * 48271 % 2147483647)))) (zRp Z Λ (wW (wZ S (zn * 48271 % 2147483647)) (fHat2 (wZ S (zn * 48271 % 2147483647)) p n))) := by
  intro Q hQ
  have hcn := fFc_le (S := (wZ S (zn * 48271 % 2147483647))) (p := p) n
  show zX Z l 1 mth_X5_drawOne 0 [(0, .ref (Λ 4)), (1, .int p), (2, .int (nI n))] [] M 0 0 Q
  refine zs_aload_n (n := 1) dX5_drawOne_0 rfl rfl ?_
  refine zs_aload_n (n := 2) dX5_drawOne_1 rfl rfl ?_
  refine zs_getv (x := (sV S 4 325)) (n := 5) dX5_drawOne_2 gf_X5_21 (hR.kd (lvC h3 (by omega))) (hR.iv (lvC h3 (by omega)) (by decide) (by decide)) rfl ?_
  rw [hz]
  refine zs_i2l (n := 6) dX5_drawOne_5 rfl ?_
  refine zs_ldc2 (n := 9) dX5_drawOne_6 ct_X5_47 rfl ?_
  refine zs_lmul (n := 10) dX5_drawOne_9 rfl ?_
  refine zs_ldc2 (n := 13) dX5_drawOne_10 ct_X5_49 rfl ?_
  refine zs_lrem (n := 14) dX5_drawOne_13 (by decide) rfl ?_
  refine zs_l2i (n := 15) dX5_drawOne_14 rfl ?_
  rw [show ((((nI zn).toInt64 * (48271 : Int64)) - ((nI zn).toInt64 * (48271 : Int64)) / (2147483647 : Int64) * (2147483647 : Int64)).toInt32) = nI (zn * 48271 % 2147483647) from fZ_nI hz2]
  refine zw_i (r := 4) (n := 18) dX5_drawOne_15 pf_X5_drawOne_21 hR (lvC h3 (by omega)) (hR.kd (lvC h3 (by omega))) ⟨rfl, rfl⟩ (by decide) rfl ?_
  intro M hR hv
  refine zs_iconst (v := 0) (n := 19) dX5_drawOne_18 (by decide) rfl ?_
  refine zs_istore_n (n := 20) dX5_drawOne_19 (by decide) rfl ?_
  refine zs_iconst (v := 0) (n := 21) dX5_drawOne_20 (by decide) rfl ?_
  refine zs_istore (n := 23) dX5_drawOne_21 (by decide) rfl ?_
  refine zX.sub (L' := [(0, .ref (Λ 4)), (1, .int p), (2, .int (nI n)), (3, .int (nI (fFc (wZ S (zn * 48271 % 2147483647)) p 0))), (4, .int (nI 0))]) ⟨rfl, rfl, rfl, rfl, rfl, trivial⟩ ?_
  refine zloop (n := n) (X := fun j => ∀ M, zRp Z Λ (wW (wZ S (zn * 48271 % 2147483647)) (fHat2 (wZ S (zn * 48271 % 2147483647)) p j)) M → zX Z l 1 mth_X5_drawOne 23 [(0, .ref (Λ 4)), (1, .int p), (2, .int (nI n)), (3, .int (nI (fFc (wZ S (zn * 48271 % 2147483647)) p j))), (4, .int (nI j))] [] M 0 0 Q) (fun j hj ih => ?_) ?_ 0 (Nat.zero_le _) M ?_
  · intro M hR
    have hcl := fFc_le (S := (wZ S (zn * 48271 % 2147483647))) (p := p) j
    refine zs_iload (n := 25) dX5_drawOne_23 rfl rfl ?_
    refine zs_iload_n (n := 26) dX5_drawOne_25 rfl rfl ?_
    refine zs_icmp_ge (tgt := 56) (n := 29) dX5_drawOne_26 (by decide) rfl (fun h => absurd h (nI_ge hj (by omega))) (fun _ => ?_)
    refine zs_aload_n (n := 30) dX5_drawOne_29 rfl rfl ?_
    refine zs_iload (n := 32) dX5_drawOne_30 rfl rfl ?_
    refine zs_iload_n (n := 33) dX5_drawOne_32 rfl rfl ?_
    refine zc_V (n := 36) (As := [.int (nI j), .int p]) (ci := 10) (mc := 0) (ms := 0) dX5_drawOne_33 ok_X5_isFree ⟨ml_X5_51, im_X5_isFree, sl_X5_isFree⟩ rfl (hR.kd (lvC h3 (by omega))) rfl (Nat.le_of_ble_eq_true rfl) (by simp) (by omega) (Nat.le_refl _) (Nat.le_refl _) rfl rfl (c_isFree hR h3 (by omega)) ?_
    rw [fFree_w (fHat2_12 j)]
    refine zs_if_eq (tgt := 50) (n := 39) dX5_drawOne_36 (by decide) rfl (fun h36 => ?_) (fun h36 => ?_)
    · refine zs_iinc (v := (nI (j + 1))) (n := 53) dX5_drawOne_50 rfl (nI_1 _) (by decide) rfl ?_
      refine zs_goto (tgt := 23) dX5_drawOne_53 (by decide) ?_
      refine zX.sub (L' := [(0, .ref (Λ 4)), (1, .int p), (2, .int (nI n)), (3, .int (nI (fFc (wZ S (zn * 48271 % 2147483647)) p (j + 1)))), (4, .int (nI (j + 1)))]) ⟨rfl, rfl, rfl, (show some (Value.int (nI (fFc (wZ S (zn * 48271 % 2147483647)) p j))) = some (Value.int (nI (fFc (wZ S (zn * 48271 % 2147483647)) p (j + 1)))) from congrArg (fun z => some (Value.int z)) (by rw [show fFc (wZ S (zn * 48271 % 2147483647)) p (j + 1) = (if fFree (wZ S (zn * 48271 % 2147483647)) j p = true then fFc (wZ S (zn * 48271 % 2147483647)) p j + 1 else fFc (wZ S (zn * 48271 % 2147483647)) p j) from rfl]; cases h9 : fFree (wZ S (zn * 48271 % 2147483647)) j p <;> simp_all [zb])), rfl, trivial⟩ ?_
      exact ih M (by rw [show fHat2 (wZ S (zn * 48271 % 2147483647)) p (j + 1) = (if fFree (wZ S (zn * 48271 % 2147483647)) j p = true then u2 (fHat2 (wZ S (zn * 48271 % 2147483647)) p j) 13 (fFc (wZ S (zn * 48271 % 2147483647)) p j) (nI j) else fHat2 (wZ S (zn * 48271 % 2147483647)) p j) from rfl]; cases h9 : fFree (wZ S (zn * 48271 % 2147483647)) j p <;> simp_all [zb])
    · refine zs_aload_n (n := 40) dX5_drawOne_39 rfl rfl ?_
      refine zs_getr (b := (Λ 13)) (n := 43) dX5_drawOne_40 gf_X5_18 (hR.kd (lvC h3 (by omega))) (hR.pt (lvC h3 (by omega)) rfl (by decide)) rfl ?_
      refine zs_iload_n (n := 44) dX5_drawOne_43 rfl rfl ?_
      refine zs_iload (n := 46) dX5_drawOne_44 rfl rfl ?_
      refine zw_ai (r := 13) (n := 47) dX5_drawOne_46 hR (lvC h3 (by omega)) (hR.kd (lvC h3 (by omega))) (by rw [show mN M (Λ 13) = 8 from (hR.ln (lvC h3 (by omega)) rfl (by decide))]; exact vp_in_nI (by first | exact (show fFc (wZ S (zn * 48271 % 2147483647)) p j < 8 from by have := fFc_le (S := (wZ S (zn * 48271 % 2147483647))) (p := p) j; omega) | omega) (by omega)) rfl ?_
      rw [nI_clamp (by omega)]
      intro M hR hv
      refine zs_iinc (v := (nI ((fFc (wZ S (zn * 48271 % 2147483647)) p j) + 1))) (n := 50) dX5_drawOne_47 rfl (nI_1 _) (by decide) rfl ?_
      refine zs_iinc (v := (nI (j + 1))) (n := 53) dX5_drawOne_50 rfl (nI_1 _) (by decide) rfl ?_
      refine zs_goto (tgt := 23) dX5_drawOne_53 (by decide) ?_
      refine zX.sub (L' := [(0, .ref (Λ 4)), (1, .int p), (2, .int (nI n)), (3, .int (nI (fFc (wZ S (zn * 48271 % 2147483647)) p (j + 1)))), (4, .int (nI (j + 1)))]) ⟨rfl, rfl, rfl, (show some (Value.int (nI ((fFc (wZ S (zn * 48271 % 2147483647)) p j) + 1))) = some (Value.int (nI (fFc (wZ S (zn * 48271 % 2147483647)) p (j + 1)))) from congrArg (fun z => some (Value.int z)) (by rw [show fFc (wZ S (zn * 48271 % 2147483647)) p (j + 1) = (if fFree (wZ S (zn * 48271 % 2147483647)) j p = true then fFc (wZ S (zn * 48271 % 2147483647)) p j + 1 else fFc (wZ S (zn * 48271 % 2147483647)) p j) from rfl]; cases h9 : fFree (wZ S (zn * 48271 % 2147483647)) j p <;> simp_all [zb])), rfl, trivial⟩ ?_
      exact ih M (by rw [show fHat2 (wZ S (zn * 48271 % 2147483647)) p (j + 1) = (if fFree (wZ S (zn * 48271 % 2147483647)) j p = true then u2 (fHat2 (wZ S (zn * 48271 % 2147483647)) p j) 13 (fFc (wZ S (zn * 48271 % 2147483647)) p j) (nI j) else fHat2 (wZ S (zn * 48271 % 2147483647)) p j) from rfl]; cases h9 : fFree (wZ S (zn * 48271 % 2147483647)) j p <;> simp_all [zb])
  · intro M hR
    refine zs_iload (n := 25) dX5_drawOne_23 rfl rfl ?_
    refine zs_iload_n (n := 26) dX5_drawOne_25 rfl rfl ?_
    refine zs_icmp_ge (tgt := 56) (n := 29) dX5_drawOne_26 (by decide) rfl (fun _ => ?_) (fun h => absurd (nI_le (Nat.le_refl _) (by omega)) h)
    refine zs_iload_n (n := 57) dX5_drawOne_56 rfl rfl ?_
    refine zs_if_le (tgt := 74) (n := 60) dX5_drawOne_57 (by decide) rfl (fun h57 => ?_) (fun h57 => ?_)
    · refine zs_iconst (v := 0) (n := 75) dX5_drawOne_74 (by decide) rfl ?_
      refine zs_ireturn dX5_drawOne_75 ⟨_, rfl, rfl⟩ ?_
      unfold fOne at hQ
      first | (rw [if_pos hpos] at hQ; exact hQ _ hR) | (rw [if_neg (by intro h9; exact absurd h57 (nI_ge h9 (by omega)))] at hQ; exact hQ _ hR)
    · have hpos : 0 < fFc (wZ S (zn * 48271 % 2147483647)) p n := by
        rcases Nat.eq_zero_or_pos (fFc (wZ S (zn * 48271 % 2147483647)) p n) with h9 | h9
        · exact absurd (by rw [h9]; decide) h57
        · exact h9
      refine zs_aload_n (n := 61) dX5_drawOne_60 rfl rfl ?_
      refine zs_getr (b := (Λ 13)) (n := 64) dX5_drawOne_61 gf_X5_18 (hR.kd (lvC h3 (by omega))) (hR.pt (lvC h3 (by omega)) rfl (by decide)) rfl ?_
      refine zs_aload_n (n := 65) dX5_drawOne_64 rfl rfl ?_
      refine zs_getv (x := (sV (wW (wZ S (zn * 48271 % 2147483647)) (fHat2 (wZ S (zn * 48271 % 2147483647)) p n)) 4 325)) (n := 68) dX5_drawOne_65 gf_X5_21 (hR.kd (lvC h3 (by omega))) (hR.iv (lvC h3 (by omega)) (by decide) (by decide)) rfl ?_
      rw [show (sV (wW (wZ S (zn * 48271 % 2147483647)) (fHat2 (wZ S (zn * 48271 % 2147483647)) p n)) 4 325) = nI (zn * 48271 % 2147483647) from (u2_at : u2 (sV S) 4 325 (nI (zn * 48271 % 2147483647)) 4 325 = nI (zn * 48271 % 2147483647))]
      refine zs_iload_n (n := 69) dX5_drawOne_68 rfl rfl ?_
      refine zs_irem (n := 70) dX5_drawOne_69 (by intro h9; have := (nI_eq (by omega) (by decide)).mp (show nI _ = nI 0 from h9); omega) rfl ?_
      rw [pk_rem (a := (zn * 48271 % 2147483647)) (by omega) hpos (by omega)]
      have hm8 : (zn * 48271 % 2147483647) % fFc (wZ S (zn * 48271 % 2147483647)) p n < 8 := by have := Nat.mod_lt (zn * 48271 % 2147483647) hpos; omega
      refine zs_ialdv (x := (sW (wW (wZ S (zn * 48271 % 2147483647)) (fHat2 (wZ S (zn * 48271 % 2147483647)) p n)) 13 ((zn * 48271 % 2147483647) % fFc (wZ S (zn * 48271 % 2147483647)) p n))) (n := 71) dX5_drawOne_70 (hR.kd (lvC h3 (by omega))) (by rw [show mN M (Λ 13) = 8 from (hR.ln (lvC h3 (by omega)) rfl (by decide))]; exact vp_in_nI (by first | exact hm8 | omega) (by omega)) (by rw [nI_clamp (by omega)]; exact hR.av (lvC h3 (by omega))) rfl ?_
      refine zs_goto (tgt := 75) dX5_drawOne_71 (by decide) ?_
      refine zs_ireturn dX5_drawOne_75 ⟨_, rfl, rfl⟩ ?_
      unfold fOne at hQ
      first | (rw [if_pos hpos] at hQ; exact hQ _ hR) | (rw [if_neg (by intro h9; exact absurd h57 (nI_ge h9 (by omega)))] at hQ; exact hQ _ hR)
  · exact hR
abbrev fOneS (S : zSt) (p : Int32) (n z : Nat) : zSt := wW (wZ S z) (fHat2 (wZ S z) p n)
/-- the numbers drawn one behind the other -/
def zs (z : Nat) : Nat → Nat
  | 0 => z
  | j + 1 => zs z j * 48271 % 2147483647
theorem zs_lt {z : Nat} (h : z < 2 ^ 31) : ∀ j, zs z j < 2 ^ 31
  | 0 => h
  | j + 1 => by
    have : zs z j * 48271 % 2147483647 < 2147483647 := Nat.mod_lt _ (by decide)
    show zs z j * 48271 % 2147483647 < 2 ^ 31
    omega
/-- who is drawn j-th, and who is left before: over the row S 12 -/
abbrev fDst : Type := zSt × Int32
def fDrawn (n zn : Nat) (S : zSt) (p : Int32) (j : Nat) : fDst := zit (fun j q => (wW (fOneS q.1 q.2 n (zs zn (j + 1))) (u2 (sW (fOneS q.1 q.2 n (zs zn (j + 1)))) 11 j (fOne q.1 q.2 n (zs zn (j + 1)))), q.2 &&& (zbit (fOne q.1 q.2 n (zs zn (j + 1))) ^^^ (-1)))) j (S, p)
theorem fDrawn_z {n zn : Nat} {S : zSt} {p : Int32} (hz : sV S 4 325 = nI zn) : ∀ j, sV (fDrawn n zn S p j).1 4 325 = nI (zs zn j)
  | 0 => hz
  | j + 1 => (u2_at : u2 (sV (fDrawn n zn S p j).1) 4 325 (nI (zs zn (j + 1))) 4 325 = nI (zs zn (j + 1)))
theorem fDrawn_sc {n zn : Nat} {S : zSt} {p : Int32} : ∀ j, sc (fDrawn n zn S p j).1 = sc S
  | 0 => rfl
  | j + 1 => fDrawn_sc (S := S) (p := p) j
def fCopyA (S : zSt) : zSt := wW S (u1 (sW S) 12 (va_cpy (sW S 9) (sW S 12) 0 0 8))
/-- the state behind a draw of all -/
def fDraw (S : zSt) (n F zn : Nat) : zSt := wV (fDrawn n zn (fCopyA S) (nI F) n).1 (u2 (u2 (sV (fDrawn n zn (fCopyA S) (nI F) n).1) 4 323 (nI n)) 4 324 1)
theorem cpX5_30 : zCpy RX5 30 := ⟨⟨tw_2 _ (List.mem_of_getElem? (i := 45) (by decide +kernel)), by decide +kernel⟩, ⟨tw_2 _ (List.mem_of_getElem? (i := 47) (by decide +kernel)), by decide +kernel⟩, ⟨tw_2 _ (List.mem_of_getElem? (i := 46) (by decide +kernel)), by decide +kernel⟩, ⟨tw_1 _ (List.mem_of_getElem? (i := 25) (by decide +kernel)), by decide +kernel⟩⟩
theorem c_draw {n F zn : Nat} (hR : zRp Z Λ S M) (h3 : sc S 3 = 1) (hn : n ≤ 8) (hF : F + 1 = 2 ^ n) (hz : sV S 4 325 = nI zn) (hz2 : zn < 2 ^ 31) : zG Z l 2 mth_X5_draw [.ref (Λ 4), .ref (Λ 3), .int (nI n)] M 0 0 none (zRp Z Λ (fDraw S n F zn)) := by
  intro Q hQ
  show zX Z l 2 mth_X5_draw 0 [(0, .ref (Λ 4)), (1, .ref (Λ 3)), (2, .int (nI n))] [] M 0 0 Q
  refine zs_aload_n (n := 1) dX5_draw_0 rfl rfl ?_
  refine zs_getr (b := (Λ 9)) (n := 4) dX5_draw_1 gf_X5_25 (hR.kd (lvC h3 (by omega))) (hR.pt (lvC h3 (by omega)) rfl (by decide)) rfl ?_
  refine zs_iconst (v := 0) (n := 5) dX5_draw_4 (by decide) rfl ?_
  refine zs_aload_n (n := 6) dX5_draw_5 rfl rfl ?_
  refine zs_getr (b := (Λ 12)) (n := 9) dX5_draw_6 gf_X5_15 (hR.kd (lvC h3 (by omega))) (hR.pt (lvC h3 (by omega)) rfl (by decide)) rfl ?_
  refine zs_iconst (v := 0) (n := 10) dX5_draw_9 (by decide) rfl ?_
  refine zs_bipush (v := 8) (n := 12) dX5_draw_10 (by decide) rfl ?_
  refine zw_copy (r0 := 9) (r := 12) (n := 15) dX5_draw_12 cpX5_30 hR (lvC h3 (by omega)) (lvC h3 (by omega)) (hR.kd (lvC h3 (by omega))) (hR.kd (lvC h3 (by omega))) (by decide) (by decide) (by decide) (by rw [hR.ln (lvC h3 (by omega)) rfl (by decide)]; decide) (by rw [hR.ln (lvC h3 (by omega)) rfl (by decide)]; decide) (by simp) rfl ?_
  intro M hR hv
  refine zs_iconst (v := 1) (n := 16) dX5_draw_15 (by decide) rfl ?_
  refine zs_iload_n (n := 17) dX5_draw_16 rfl rfl ?_
  refine zs_ishl (n := 18) dX5_draw_17 rfl ?_
  refine zs_iconst (v := 1) (n := 19) dX5_draw_18 (by decide) rfl ?_
  refine zs_isub (n := 20) dX5_draw_19 rfl ?_
  rw [show (1 : Int32) <<< (nI n &&& 31) - 1 = nI F from by rw [zbit_pow n (by omega), show (1 : Int32) = nI 1 from rfl, pk_sub (by omega), ← hF]; rfl]
  refine zs_istore_n (n := 21) dX5_draw_20 (by decide) rfl ?_
  refine zs_iconst (v := 0) (n := 22) dX5_draw_21 (by decide) rfl ?_
  refine zs_istore (n := 24) dX5_draw_22 (by decide) rfl ?_
  refine zX.sub (L' := [(0, .ref (Λ 4)), (2, .int (nI n)), (3, .int ((fDrawn n zn (fCopyA S) (nI F) 0).2)), (4, .int (nI 0))]) ⟨rfl, rfl, rfl, rfl, trivial⟩ ?_
  refine zloop (n := n) (X := fun j => ∀ M, zRp Z Λ (fDrawn n zn (fCopyA S) (nI F) j).1 M → zX Z l 2 mth_X5_draw 24 [(0, .ref (Λ 4)), (2, .int (nI n)), (3, .int ((fDrawn n zn (fCopyA S) (nI F) j).2)), (4, .int (nI j))] [] M 0 0 Q) (fun j hj ih => ?_) ?_ 0 (Nat.zero_le _) M ?_
  · intro M hR
    have hzj : sV (fDrawn n zn (fCopyA S) (nI F) j).1 4 325 = nI (zs zn j) := fDrawn_z (S := fCopyA S) hz j
    have hzj2 := zs_lt hz2 j
    have h3 : sc (fDrawn n zn (fCopyA S) (nI F) j).1 3 = 1 := (congrFun (fDrawn_sc j) 3).trans h3
    refine zs_iload (n := 26) dX5_draw_24 rfl rfl ?_
    refine zs_iload_n (n := 27) dX5_draw_26 rfl rfl ?_
    refine zs_icmp_ge (tgt := 63) (n := 30) dX5_draw_27 (by decide) rfl (fun h => absurd h (nI_ge hj (by omega))) (fun _ => ?_)
    refine zs_aload_n (n := 31) dX5_draw_30 rfl rfl ?_
    refine zs_getr (b := (Λ 11)) (n := 34) dX5_draw_31 gf_X5_9 (hR.kd (lvC h3 (by omega))) (hR.pt (lvC h3 (by omega)) rfl (by decide)) rfl ?_
    refine zs_iload (n := 36) dX5_draw_34 rfl rfl ?_
    refine zs_aload_n (n := 37) dX5_draw_36 rfl rfl ?_
    refine zs_iload_n (n := 38) dX5_draw_37 rfl rfl ?_
    refine zs_iload_n (n := 39) dX5_draw_38 rfl rfl ?_
    refine zg_V (n := 42) (As := [.int ((fDrawn n zn (fCopyA S) (nI F) j).2), .int (nI n)]) (ci := 10) (mc := 0) (ms := 0) dX5_draw_39 ok_X5_drawOne ⟨ml_X5_36, im_X5_drawOne, sl_X5_drawOne⟩ rfl (hR.kd (lvC h3 (by omega))) rfl (Nat.le_of_ble_eq_true rfl) (by simp) (by omega) (Nat.le_refl _) (Nat.le_refl _) rfl rfl (c_drawOne hR h3 hn hzj hzj2) ?_
    intro M hR
    refine zw_ai (r := 11) (n := 43) dX5_draw_42 hR (lvC h3 (by omega)) (hR.kd (lvC h3 (by omega))) (by rw [show mN M (Λ 11) = 8 from (hR.ln (lvC h3 (by omega)) rfl (by decide))]; exact vp_in_nI (by first | exact hj | omega) (by omega)) rfl ?_
    rw [nI_clamp (by omega)]
    intro M hR hv
    refine zs_iload_n (n := 44) dX5_draw_43 rfl rfl ?_
    refine zs_iconst (v := 1) (n := 45) dX5_draw_44 (by decide) rfl ?_
    refine zs_aload_n (n := 46) dX5_draw_45 rfl rfl ?_
    refine zs_getr (b := (Λ 11)) (n := 49) dX5_draw_46 gf_X5_9 (hR.kd (lvC h3 (by omega))) (hR.pt (lvC h3 (by omega)) rfl (by decide)) rfl ?_
    refine zs_iload (n := 51) dX5_draw_49 rfl rfl ?_
    refine zs_ialdv (x := (sW (sc (fOneS (fDrawn n zn (fCopyA S) (nI F) j).1 ((fDrawn n zn (fCopyA S) (nI F) j).2) n (zs zn (j + 1))), sV (fOneS (fDrawn n zn (fCopyA S) (nI F) j).1 ((fDrawn n zn (fCopyA S) (nI F) j).2) n (zs zn (j + 1))), u2 (sW (fOneS (fDrawn n zn (fCopyA S) (nI F) j).1 ((fDrawn n zn (fCopyA S) (nI F) j).2) n (zs zn (j + 1)))) 11 j (fOne (fDrawn n zn (fCopyA S) (nI F) j).1 ((fDrawn n zn (fCopyA S) (nI F) j).2) n (zs zn (j + 1))), sT (fOneS (fDrawn n zn (fCopyA S) (nI F) j).1 ((fDrawn n zn (fCopyA S) (nI F) j).2) n (zs zn (j + 1))), sP (fOneS (fDrawn n zn (fCopyA S) (nI F) j).1 ((fDrawn n zn (fCopyA S) (nI F) j).2) n (zs zn (j + 1)))) 11 j)) (n := 52) dX5_draw_51 (hR.kd (lvC h3 (by omega))) (by rw [show mN M (Λ 11) = 8 from (hR.ln (lvC h3 (by omega)) rfl (by decide))]; exact vp_in_nI (by first | exact hj | omega) (by omega)) (by rw [nI_clamp (by omega)]; exact hR.av (lvC h3 (by omega))) rfl ?_
    rw [show (sW (sc (fOneS (fDrawn n zn (fCopyA S) (nI F) j).1 ((fDrawn n zn (fCopyA S) (nI F) j).2) n (zs zn (j + 1))), sV (fOneS (fDrawn n zn (fCopyA S) (nI F) j).1 ((fDrawn n zn (fCopyA S) (nI F) j).2) n (zs zn (j + 1))), u2 (sW (fOneS (fDrawn n zn (fCopyA S) (nI F) j).1 ((fDrawn n zn (fCopyA S) (nI F) j).2) n (zs zn (j + 1)))) 11 j (fOne (fDrawn n zn (fCopyA S) (nI F) j).1 ((fDrawn n zn (fCopyA S) (nI F) j).2) n (zs zn (j + 1))), sT (fOneS (fDrawn n zn (fCopyA S) (nI F) j).1 ((fDrawn n zn (fCopyA S) (nI F) j).2) n (zs zn (j + 1))), sP (fOneS (fDrawn n zn (fCopyA S) (nI F) j).1 ((fDrawn n zn (fCopyA S) (nI F) j).2) n (zs zn (j + 1)))) 11 j) = fOne (fDrawn n zn (fCopyA S) (nI F) j).1 (fDrawn n zn (fCopyA S) (nI F) j).2 n (zs zn (j + 1)) from (u2_at : u2 (sW (fOneS (fDrawn n zn (fCopyA S) (nI F) j).1 (fDrawn n zn (fCopyA S) (nI F) j).2 n (zs zn (j + 1)))) 11 j (fOne (fDrawn n zn (fCopyA S) (nI F) j).1 (fDrawn n zn (fCopyA S) (nI F) j).2 n (zs zn (j + 1))) 11 j = _)]
    refine zs_ishl (n := 53) dX5_draw_52 rfl ?_
    refine zs_iconst (v := -1) (n := 54) dX5_draw_53 (by decide) rfl ?_
    refine zs_ixor (n := 55) dX5_draw_54 rfl ?_
    refine zs_iand (n := 56) dX5_draw_55 rfl ?_
    refine zs_istore_n (n := 57) dX5_draw_56 (by decide) rfl ?_
    refine zs_iinc (v := (nI (j + 1))) (n := 60) dX5_draw_57 rfl (nI_1 _) (by decide) rfl ?_
    refine zs_goto (tgt := 24) dX5_draw_60 (by decide) ?_
    refine zX.sub (L' := [(0, .ref (Λ 4)), (2, .int (nI n)), (3, .int ((fDrawn n zn (fCopyA S) (nI F) (j + 1)).2)), (4, .int (nI (j + 1)))]) ⟨rfl, rfl, rfl, rfl, trivial⟩ ?_
    exact ih M hR
  · intro M hR
    have h3 : sc (fDrawn n zn (fCopyA S) (nI F) n).1 3 = 1 := (congrFun (fDrawn_sc n) 3).trans h3
    refine zs_iload (n := 26) dX5_draw_24 rfl rfl ?_
    refine zs_iload_n (n := 27) dX5_draw_26 rfl rfl ?_
    refine zs_icmp_ge (tgt := 63) (n := 30) dX5_draw_27 (by decide) rfl (fun _ => ?_) (fun h => absurd (nI_le (Nat.le_refl _) (by omega)) h)
    refine zs_aload_n (n := 64) dX5_draw_63 rfl rfl ?_
    refine zs_iload_n (n := 65) dX5_draw_64 rfl rfl ?_
    refine zw_i (r := 4) (n := 68) dX5_draw_65 pf_X5_draw_40 hR (lvC h3 (by omega)) (hR.kd (lvC h3 (by omega))) ⟨rfl, rfl⟩ (by decide) rfl ?_
    intro M hR hv
    refine zs_aload_n (n := 69) dX5_draw_68 rfl rfl ?_
    refine zs_iconst (v := 1) (n := 70) dX5_draw_69 (by decide) rfl ?_
    refine zw_i (r := 4) (n := 73) dX5_draw_70 pf_X5_draw_43 hR (lvC h3 (by omega)) (hR.kd (lvC h3 (by omega))) ⟨by decide, by decide⟩ (by decide) rfl ?_
    intro M hR hv
    refine zs_return dX5_draw_73 rfl ?_
    exact hQ _ hR
  · exact hR
end ZWAYS
