/-! ORDER by its number; what is allowed; the diary; what a turn tells -/
section ZORDER
variable {Z : zPar} {l : Launch} {Λ : Nat → Nat} {S : zSt} {M : zMem}
/-- the first below n that has p, or n -/
def zfst (p : Nat → Bool) : Nat → Nat
  | 0 => 0
  | n + 1 => if zfst p n < n then zfst p n else if p n = true then n else n + 1
theorem zfst_none {p : Nat → Bool} : ∀ {n : Nat}, (∀ f, f < n → p f = false) → zfst p n = n
  | 0, _ => rfl
  | n + 1, h => by
    unfold zfst
    rw [zfst_none (fun f hf => h f (by omega)), if_neg (Nat.lt_irrefl n), h n (by omega), if_neg (by decide)]
theorem zfst_hit {p : Nat → Bool} {k : Nat} (h : ∀ f, f < k → p f = false) (hk : p k = true) : ∀ {n : Nat}, k < n → zfst p n = k
  | n + 1, hn => by
    unfold zfst
    by_cases e : k < n
    · rw [zfst_hit h hk e, if_pos e]
    · have e2 : k = n := by omega
      subst e2
      rw [zfst_none h, if_neg (Nat.lt_irrefl k), if_pos hk]
def fLeft (S : zSt) (p : Nat) (x : Int32) (k : Nat) : Int32 := zit (fun f y => y - (if fNext S f (nI p) = true then sW S 10 (p ||| 2 ^ f) else 0)) k x
def fCnd (S : zSt) (p : Nat) (x : Int32) (f : Nat) : Bool := fNext S f (nI p) && decide (fLeft S p x f < sW S 10 (p ||| 2 ^ f))
def fSel (S : zSt) (n p : Nat) (x : Int32) : Nat := zfst (fCnd S p x) (n - 1)
abbrev fOst : Type := Nat × Int32 × Nat
def fOrd (S : zSt) (n : Nat) (o : Int32) (i : Nat) : fOst := zit (fun _ q => (q.1 ||| 2 ^ fSel S n q.1 q.2.1, fLeft S q.1 q.2.1 (fSel S n q.1 q.2.1), fSel S n q.1 q.2.1)) i (0, o, 0)
theorem fSel_lt {S : zSt} {n p : Nat} {x : Int32} (hn : 0 < n) : fSel S n p x < n := by
  have : ∀ m, zfst (fCnd S p x) m ≤ m := by
    intro m
    induction m with
    | zero => exact Nat.le_refl _
    | succ m ih =>
      unfold zfst
      split
      · omega
      · split <;> omega
  have := this (n - 1)
  unfold fSel
  omega
theorem fOrd_lt {S : zSt} {n : Nat} {o : Int32} (hn : 0 < n) (h8 : n ≤ 8) : ∀ i, (fOrd S n o i).1 < 256
  | 0 => (by decide : (0 : Nat) < 256)
  | i + 1 => by
    show (fOrd S n o i).1 ||| 2 ^ fSel S n (fOrd S n o i).1 (fOrd S n o i).2.1 < 256
    exact zor_lt (fOrd_lt hn h8 i) (by have := fSel_lt (S := S) (p := (fOrd S n o i).1) (x := (fOrd S n o i).2.1) hn; omega)
theorem c_actOfOrder {n F pl : Nat} {o : Int32} (hR : zRp Z Λ S M) (h3 : sc S 3 = 1) (hn : n ≤ 8) (hF : F + 1 = 2 ^ n) (hpl : pl < n) : zG Z l 2 mth_X1_actOfOrder [.ref (Λ 3), .int o, .int (nI pl), .int (nI n)] M 0 0 (some (.int (nI (fOrd (wW S (fWay S n F F)) n o (pl + 1)).2.2))) (zRp Z Λ (wW S (fWay S n F F))) := by
  intro Q hQ
  have hn0 : 0 < n := by omega
  show zX Z l 2 mth_X1_actOfOrder 0 [(0, .ref (Λ 3)), (1, .int o), (2, .int (nI pl)), (3, .int (nI n))] [] M 0 0 Q
  refine zs_aload_n (n := 1) dX1_actOfOrder_0 rfl rfl ?_
  refine zs_iload_n (n := 2) dX1_actOfOrder_1 rfl rfl ?_
  refine zg_V (n := 5) (As := [.int (nI n)]) (ci := 6) (mc := 0) (ms := 0) dX1_actOfOrder_2 ok_X1_fillWays ⟨ml_X1_18, im_X1_fillWays, sl_X1_fillWays⟩ rfl (hR.kd (lvC h3 (by omega))) rfl (Nat.le_of_ble_eq_true rfl) (by simp) (by omega) (Nat.le_refl _) (Nat.le_refl _) rfl rfl (c_fillWays hR h3 hn hF) ?_
  intro M hR
  refine zs_iload_n (n := 6) dX1_actOfOrder_5 rfl rfl ?_
  refine zs_istore (n := 8) dX1_actOfOrder_6 (by decide) rfl ?_
  refine zs_iconst (v := 0) (n := 9) dX1_actOfOrder_8 (by decide) rfl ?_
  refine zs_istore (n := 11) dX1_actOfOrder_9 (by decide) rfl ?_
  refine zs_iconst (v := 0) (n := 12) dX1_actOfOrder_11 (by decide) rfl ?_
  refine zs_istore (n := 14) dX1_actOfOrder_12 (by decide) rfl ?_
  refine zs_iconst (v := 0) (n := 15) dX1_actOfOrder_14 (by decide) rfl ?_
  refine zs_istore (n := 17) dX1_actOfOrder_15 (by decide) rfl ?_
  refine zX.sub (L' := [(0, .ref (Λ 3)), (1, .int o), (2, .int (nI pl)), (3, .int (nI n)), (4, .int ((fOrd (wW S (fWay S n F F)) n o 0).2.1)), (5, .int (nI ((fOrd (wW S (fWay S n F F)) n o 0).1))), (6, .int (nI ((fOrd (wW S (fWay S n F F)) n o 0).2.2))), (7, .int (nI 0))]) ⟨rfl, rfl, rfl, rfl, rfl, rfl, rfl, rfl, trivial⟩ ?_
  refine zloop (n := (pl + 1)) (X := fun j => zX Z l 2 mth_X1_actOfOrder 17 [(0, .ref (Λ 3)), (1, .int o), (2, .int (nI pl)), (3, .int (nI n)), (4, .int ((fOrd (wW S (fWay S n F F)) n o j).2.1)), (5, .int (nI ((fOrd (wW S (fWay S n F F)) n o j).1))), (6, .int (nI ((fOrd (wW S (fWay S n F F)) n o j).2.2))), (7, .int (nI j))] [] M 0 0 Q) (fun j hj ihj => ?_) ?_ 0 (Nat.zero_le _)
  · have hp256 := fOrd_lt (S := (wW S (fWay S n F F))) (o := o) hn0 hn j
    refine zs_iload (n := 19) dX1_actOfOrder_17 rfl rfl ?_
    refine zs_iload_n (n := 20) dX1_actOfOrder_19 rfl rfl ?_
    refine zs_icmp_gt (tgt := 115) (n := 23) dX1_actOfOrder_20 (by decide) rfl (fun h => absurd h (Int32.not_lt.mpr (nI_le (show j ≤ pl from by omega) (by omega)))) (fun _ => ?_)
    refine zs_iconst (v := 0) (n := 24) dX1_actOfOrder_23 (by decide) rfl ?_
    refine zs_istore (n := 26) dX1_actOfOrder_24 (by decide) rfl ?_
    refine zX.sub (L' := [(0, .ref (Λ 3)), (1, .int o), (2, .int (nI pl)), (3, .int (nI n)), (4, .int (fLeft (wW S (fWay S n F F)) (fOrd (wW S (fWay S n F F)) n o j).1 (fOrd (wW S (fWay S n F F)) n o j).2.1 0)), (5, .int (nI ((fOrd (wW S (fWay S n F F)) n o j).1))), (6, .int (nI 0)), (7, .int (nI j))]) ⟨rfl, rfl, rfl, rfl, rfl, rfl, rfl, rfl, trivial⟩ ?_
    refine zloop (n := (n - 1)) (X := fun k => (∀ f, f < k → fCnd (wW S (fWay S n F F)) (fOrd (wW S (fWay S n F F)) n o j).1 (fOrd (wW S (fWay S n F F)) n o j).2.1 f = false) → zX Z l 2 mth_X1_actOfOrder 26 [(0, .ref (Λ 3)), (1, .int o), (2, .int (nI pl)), (3, .int (nI n)), (4, .int (fLeft (wW S (fWay S n F F)) (fOrd (wW S (fWay S n F F)) n o j).1 (fOrd (wW S (fWay S n F F)) n o j).2.1 k)), (5, .int (nI ((fOrd (wW S (fWay S n F F)) n o j).1))), (6, .int (nI k)), (7, .int (nI j))] [] M 0 0 Q) (fun k hk ih => ?_) ?_ 0 (Nat.zero_le _) ?_
    · intro H
      have hor := zor_lt hp256 (show k < 8 from by omega)
      refine zs_iload (n := 28) dX1_actOfOrder_26 rfl rfl ?_
      refine zs_iload_n (n := 29) dX1_actOfOrder_28 rfl rfl ?_
      refine zs_iconst (v := 1) (n := 30) dX1_actOfOrder_29 (by decide) rfl ?_
      refine zs_isub (n := 31) dX1_actOfOrder_30 rfl ?_
      refine zs_icmp_ge (tgt := 100) (n := 34) dX1_actOfOrder_31 (by decide) rfl (fun h => absurd h (by rw [show (nI n - 1 : Int32) = nI (n - 1) from by rw [show (1 : Int32) = nI 1 from rfl, pk_sub (by omega)]]; exact nI_ge hk (by omega))) (fun _ => ?_)
      refine zs_aload_n (n := 35) dX1_actOfOrder_34 rfl rfl ?_
      refine zs_iload (n := 37) dX1_actOfOrder_35 rfl rfl ?_
      refine zs_iload (n := 39) dX1_actOfOrder_37 rfl rfl ?_
      refine zc_V (n := 42) (As := [.int (nI k), .int (nI ((fOrd (wW S (fWay S n F F)) n o j).1))]) (ci := 6) (mc := 0) (ms := 0) dX1_actOfOrder_39 ok_X1_isNext ⟨ml_X1_22, im_X1_isNext, sl_X1_isNext⟩ rfl (hR.kd (lvC h3 (by omega))) rfl (Nat.le_of_ble_eq_true rfl) (by simp) (by omega) (Nat.le_refl _) (Nat.le_refl _) rfl rfl (c_isNext hR h3 (by omega)) ?_
      refine zs_if_eq (tgt := 62) (n := 45) dX1_actOfOrder_42 (by decide) rfl (fun h42 => ?_) (fun h42 => ?_)
      · refine zs_iload (n := 64) dX1_actOfOrder_62 rfl rfl ?_
        refine zs_aload_n (n := 65) dX1_actOfOrder_64 rfl rfl ?_
        refine zs_iload (n := 67) dX1_actOfOrder_65 rfl rfl ?_
        refine zs_iload (n := 69) dX1_actOfOrder_67 rfl rfl ?_
        refine zc_V (n := 72) (As := [.int (nI k), .int (nI ((fOrd (wW S (fWay S n F F)) n o j).1))]) (ci := 6) (mc := 0) (ms := 0) dX1_actOfOrder_69 ok_X1_isNext ⟨ml_X1_22, im_X1_isNext, sl_X1_isNext⟩ rfl (hR.kd (lvC h3 (by omega))) rfl (Nat.le_of_ble_eq_true rfl) (by simp) (by omega) (Nat.le_refl _) (Nat.le_refl _) rfl rfl (c_isNext hR h3 (by omega)) ?_
        refine zs_if_eq (tgt := 90) (n := 75) dX1_actOfOrder_72 (by decide) rfl (fun h72 => ?_) (fun h72 => ?_)
        · refine zs_iconst (v := 0) (n := 91) dX1_actOfOrder_90 (by decide) rfl ?_
          refine zs_isub (n := 92) dX1_actOfOrder_91 rfl ?_
          refine zs_istore (n := 94) dX1_actOfOrder_92 (by decide) rfl ?_
          refine zs_iinc (v := (nI (k + 1))) (n := 97) dX1_actOfOrder_94 rfl (nI_1 _) (by decide) rfl ?_
          refine zs_goto (tgt := 26) dX1_actOfOrder_97 (by decide) ?_
          refine zX.sub (L' := [(0, .ref (Λ 3)), (1, .int o), (2, .int (nI pl)), (3, .int (nI n)), (4, .int (fLeft (wW S (fWay S n F F)) (fOrd (wW S (fWay S n F F)) n o j).1 (fOrd (wW S (fWay S n F F)) n o j).2.1 (k + 1))), (5, .int (nI ((fOrd (wW S (fWay S n F F)) n o j).1))), (6, .int (nI (k + 1))), (7, .int (nI j))]) ⟨rfl, rfl, rfl, rfl, (show some (Value.int ((fLeft (wW S (fWay S n F F)) (fOrd (wW S (fWay S n F F)) n o j).1 (fOrd (wW S (fWay S n F F)) n o j).2.1 k) - (0 : Int32))) = some (Value.int (fLeft (wW S (fWay S n F F)) (fOrd (wW S (fWay S n F F)) n o j).1 (fOrd (wW S (fWay S n F F)) n o j).2.1 (k + 1))) from congrArg (fun z => some (Value.int z)) (by rw [show fLeft (wW S (fWay S n F F)) (fOrd (wW S (fWay S n F F)) n o j).1 (fOrd (wW S (fWay S n F F)) n o j).2.1 (k + 1) = fLeft (wW S (fWay S n F F)) (fOrd (wW S (fWay S n F F)) n o j).1 (fOrd (wW S (fWay S n F F)) n o j).2.1 k - (if fNext (wW S (fWay S n F F)) k (nI (fOrd (wW S (fWay S n F F)) n o j).1) = true then sW (wW S (fWay S n F F)) 10 ((fOrd (wW S (fWay S n F F)) n o j).1 ||| 2 ^ k) else 0) from rfl]; cases h9 : fNext (wW S (fWay S n F F)) k (nI (fOrd (wW S (fWay S n F F)) n o j).1) <;> simp_all [zb])), rfl, rfl, rfl, trivial⟩ ?_
          refine ih ?_
          intro f hf
          by_cases e : f = k
          · subst e
            unfold fCnd
            cases h9 : fNext (wW S (fWay S n F F)) f (nI (fOrd (wW S (fWay S n F F)) n o j).1) <;> simp_all [zb]
          · exact H f (by omega)
        · refine zs_aload_n (n := 76) dX1_actOfOrder_75 rfl rfl ?_
          refine zs_getr (b := (Λ 10)) (n := 79) dX1_actOfOrder_76 gf_X1_15 (hR.kd (lvC h3 (by omega))) (hR.pt (lvC h3 (by omega)) rfl (by decide)) rfl ?_
          refine zs_iload (n := 81) dX1_actOfOrder_79 rfl rfl ?_
          refine zs_iconst (v := 1) (n := 82) dX1_actOfOrder_81 (by decide) rfl ?_
          refine zs_iload (n := 84) dX1_actOfOrder_82 rfl rfl ?_
          refine zs_ishl (n := 85) dX1_actOfOrder_84 rfl ?_
          refine zs_ior (n := 86) dX1_actOfOrder_85 rfl ?_
          rw [zor_bit (by omega)]
          refine zs_ialdv (x := (sW (wW S (fWay S n F F)) 10 ((fOrd (wW S (fWay S n F F)) n o j).1 ||| 2 ^ k))) (n := 87) dX1_actOfOrder_86 (hR.kd (lvC h3 (by omega))) (by rw [show mN M (Λ 10) = 256 from (hR.ln (lvC h3 (by omega)) rfl (by decide))]; exact vp_in_nI (by first | exact hor | omega) (by omega)) (by rw [nI_clamp (by omega)]; exact hR.av (lvC h3 (by omega))) rfl ?_
          refine zs_goto (tgt := 91) dX1_actOfOrder_87 (by decide) ?_
          refine zs_isub (n := 92) dX1_actOfOrder_91 rfl ?_
          refine zs_istore (n := 94) dX1_actOfOrder_92 (by decide) rfl ?_
          refine zs_iinc (v := (nI (k + 1))) (n := 97) dX1_actOfOrder_94 rfl (nI_1 _) (by decide) rfl ?_
          refine zs_goto (tgt := 26) dX1_actOfOrder_97 (by decide) ?_
          refine zX.sub (L' := [(0, .ref (Λ 3)), (1, .int o), (2, .int (nI pl)), (3, .int (nI n)), (4, .int (fLeft (wW S (fWay S n F F)) (fOrd (wW S (fWay S n F F)) n o j).1 (fOrd (wW S (fWay S n F F)) n o j).2.1 (k + 1))), (5, .int (nI ((fOrd (wW S (fWay S n F F)) n o j).1))), (6, .int (nI (k + 1))), (7, .int (nI j))]) ⟨rfl, rfl, rfl, rfl, (show some (Value.int ((fLeft (wW S (fWay S n F F)) (fOrd (wW S (fWay S n F F)) n o j).1 (fOrd (wW S (fWay S n F F)) n o j).2.1 k) - (sW (wW S (fWay S n F F)) 10 ((fOrd (wW S (fWay S n F F)) n o j).1 ||| 2 ^ k)))) = some (Value.int (fLeft (wW S (fWay S n F F)) (fOrd (wW S (fWay S n F F)) n o j).1 (fOrd (wW S (fWay S n F F)) n o j).2.1 (k + 1))) from congrArg (fun z => some (Value.int z)) (by rw [show fLeft (wW S (fWay S n F F)) (fOrd (wW S (fWay S n F F)) n o j).1 (fOrd (wW S (fWay S n F F)) n o j).2.1 (k + 1) = fLeft (wW S (fWay S n F F)) (fOrd (wW S (fWay S n F F)) n o j).1 (fOrd (wW S (fWay S n F F)) n o j).2.1 k - (if fNext (wW S (fWay S n F F)) k (nI (fOrd (wW S (fWay S n F F)) n o j).1) = true then sW (wW S (fWay S n F F)) 10 ((fOrd (wW S (fWay S n F F)) n o j).1 ||| 2 ^ k) else 0) from rfl]; cases h9 : fNext (wW S (fWay S n F F)) k (nI (fOrd (wW S (fWay S n F F)) n o j).1) <;> simp_all [zb])), rfl, rfl, rfl, trivial⟩ ?_
          refine ih ?_
          intro f hf
          by_cases e : f = k
          · subst e
            unfold fCnd
            cases h9 : fNext (wW S (fWay S n F F)) f (nI (fOrd (wW S (fWay S n F F)) n o j).1) <;> simp_all [zb]
          · exact H f (by omega)
      · refine zs_iload (n := 47) dX1_actOfOrder_45 rfl rfl ?_
        refine zs_aload_n (n := 48) dX1_actOfOrder_47 rfl rfl ?_
        refine zs_getr (b := (Λ 10)) (n := 51) dX1_actOfOrder_48 gf_X1_15 (hR.kd (lvC h3 (by omega))) (hR.pt (lvC h3 (by omega)) rfl (by decide)) rfl ?_
        refine zs_iload (n := 53) dX1_actOfOrder_51 rfl rfl ?_
        refine zs_iconst (v := 1) (n := 54) dX1_actOfOrder_53 (by decide) rfl ?_
        refine zs_iload (n := 56) dX1_actOfOrder_54 rfl rfl ?_
        refine zs_ishl (n := 57) dX1_actOfOrder_56 rfl ?_
        refine zs_ior (n := 58) dX1_actOfOrder_57 rfl ?_
        rw [zor_bit (by omega)]
        refine zs_ialdv (x := (sW (wW S (fWay S n F F)) 10 ((fOrd (wW S (fWay S n F F)) n o j).1 ||| 2 ^ k))) (n := 59) dX1_actOfOrder_58 (hR.kd (lvC h3 (by omega))) (by rw [show mN M (Λ 10) = 256 from (hR.ln (lvC h3 (by omega)) rfl (by decide))]; exact vp_in_nI (by first | exact hor | omega) (by omega)) (by rw [nI_clamp (by omega)]; exact hR.av (lvC h3 (by omega))) rfl ?_
        refine zs_icmp_lt (tgt := 100) (n := 62) dX1_actOfOrder_59 (by decide) rfl (fun h59 => ?_) (fun h59 => ?_)
        · have hsel : fSel (wW S (fWay S n F F)) n (fOrd (wW S (fWay S n F F)) n o j).1 (fOrd (wW S (fWay S n F F)) n o j).2.1 = k := zfst_hit H (by unfold fCnd; cases h9 : fNext (wW S (fWay S n F F)) k (nI (fOrd (wW S (fWay S n F F)) n o j).1) <;> simp_all [zb]) hk
          refine zs_iload (n := 102) dX1_actOfOrder_100 rfl rfl ?_
          refine zs_iconst (v := 1) (n := 103) dX1_actOfOrder_102 (by decide) rfl ?_
          refine zs_iload (n := 105) dX1_actOfOrder_103 rfl rfl ?_
          refine zs_ishl (n := 106) dX1_actOfOrder_105 rfl ?_
          refine zs_ior (n := 107) dX1_actOfOrder_106 rfl ?_
          rw [zor_bit (by omega)]
          refine zs_istore (n := 109) dX1_actOfOrder_107 (by decide) rfl ?_
          refine zs_iinc (v := (nI (j + 1))) (n := 112) dX1_actOfOrder_109 rfl (nI_1 _) (by decide) rfl ?_
          refine zs_goto (tgt := 17) dX1_actOfOrder_112 (by decide) ?_
          refine zX.sub (L' := [(0, .ref (Λ 3)), (1, .int o), (2, .int (nI pl)), (3, .int (nI n)), (4, .int ((fOrd (wW S (fWay S n F F)) n o (j + 1)).2.1)), (5, .int (nI ((fOrd (wW S (fWay S n F F)) n o (j + 1)).1))), (6, .int (nI ((fOrd (wW S (fWay S n F F)) n o (j + 1)).2.2))), (7, .int (nI (j + 1)))]) ⟨rfl, rfl, rfl, rfl, (show some (Value.int (fLeft (wW S (fWay S n F F)) (fOrd (wW S (fWay S n F F)) n o j).1 (fOrd (wW S (fWay S n F F)) n o j).2.1 k)) = some (Value.int ((fOrd (wW S (fWay S n F F)) n o (j + 1)).2.1)) from congrArg (fun z => some (Value.int z)) (by rw [show fOrd (wW S (fWay S n F F)) n o (j + 1) = ((fOrd (wW S (fWay S n F F)) n o j).1 ||| 2 ^ fSel (wW S (fWay S n F F)) n (fOrd (wW S (fWay S n F F)) n o j).1 (fOrd (wW S (fWay S n F F)) n o j).2.1, fLeft (wW S (fWay S n F F)) (fOrd (wW S (fWay S n F F)) n o j).1 (fOrd (wW S (fWay S n F F)) n o j).2.1 (fSel (wW S (fWay S n F F)) n (fOrd (wW S (fWay S n F F)) n o j).1 (fOrd (wW S (fWay S n F F)) n o j).2.1), fSel (wW S (fWay S n F F)) n (fOrd (wW S (fWay S n F F)) n o j).1 (fOrd (wW S (fWay S n F F)) n o j).2.1) from rfl, hsel])), (show some (Value.int (nI ((fOrd (wW S (fWay S n F F)) n o j).1 ||| 2 ^ k))) = some (Value.int (nI ((fOrd (wW S (fWay S n F F)) n o (j + 1)).1))) from congrArg (fun z => some (Value.int z)) (by rw [show fOrd (wW S (fWay S n F F)) n o (j + 1) = ((fOrd (wW S (fWay S n F F)) n o j).1 ||| 2 ^ fSel (wW S (fWay S n F F)) n (fOrd (wW S (fWay S n F F)) n o j).1 (fOrd (wW S (fWay S n F F)) n o j).2.1, fLeft (wW S (fWay S n F F)) (fOrd (wW S (fWay S n F F)) n o j).1 (fOrd (wW S (fWay S n F F)) n o j).2.1 (fSel (wW S (fWay S n F F)) n (fOrd (wW S (fWay S n F F)) n o j).1 (fOrd (wW S (fWay S n F F)) n o j).2.1), fSel (wW S (fWay S n F F)) n (fOrd (wW S (fWay S n F F)) n o j).1 (fOrd (wW S (fWay S n F F)) n o j).2.1) from rfl, hsel])), (show some (Value.int (nI k)) = some (Value.int (nI ((fOrd (wW S (fWay S n F F)) n o (j + 1)).2.2))) from congrArg (fun z => some (Value.int z)) (by rw [show fOrd (wW S (fWay S n F F)) n o (j + 1) = ((fOrd (wW S (fWay S n F F)) n o j).1 ||| 2 ^ fSel (wW S (fWay S n F F)) n (fOrd (wW S (fWay S n F F)) n o j).1 (fOrd (wW S (fWay S n F F)) n o j).2.1, fLeft (wW S (fWay S n F F)) (fOrd (wW S (fWay S n F F)) n o j).1 (fOrd (wW S (fWay S n F F)) n o j).2.1 (fSel (wW S (fWay S n F F)) n (fOrd (wW S (fWay S n F F)) n o j).1 (fOrd (wW S (fWay S n F F)) n o j).2.1), fSel (wW S (fWay S n F F)) n (fOrd (wW S (fWay S n F F)) n o j).1 (fOrd (wW S (fWay S n F F)) n o j).2.1) from rfl, hsel])), rfl, trivial⟩ ?_
          exact ihj
        · refine zs_iload (n := 64) dX1_actOfOrder_62 rfl rfl ?_
          refine zs_aload_n (n := 65) dX1_actOfOrder_64 rfl rfl ?_
          refine zs_iload (n := 67) dX1_actOfOrder_65 rfl rfl ?_
          refine zs_iload (n := 69) dX1_actOfOrder_67 rfl rfl ?_
          refine zc_V (n := 72) (As := [.int (nI k), .int (nI ((fOrd (wW S (fWay S n F F)) n o j).1))]) (ci := 6) (mc := 0) (ms := 0) dX1_actOfOrder_69 ok_X1_isNext ⟨ml_X1_22, im_X1_isNext, sl_X1_isNext⟩ rfl (hR.kd (lvC h3 (by omega))) rfl (Nat.le_of_ble_eq_true rfl) (by simp) (by omega) (Nat.le_refl _) (Nat.le_refl _) rfl rfl (c_isNext hR h3 (by omega)) ?_
          refine zs_if_eq (tgt := 90) (n := 75) dX1_actOfOrder_72 (by decide) rfl (fun h72 => ?_) (fun h72 => ?_)
          · refine zs_iconst (v := 0) (n := 91) dX1_actOfOrder_90 (by decide) rfl ?_
            refine zs_isub (n := 92) dX1_actOfOrder_91 rfl ?_
            refine zs_istore (n := 94) dX1_actOfOrder_92 (by decide) rfl ?_
            refine zs_iinc (v := (nI (k + 1))) (n := 97) dX1_actOfOrder_94 rfl (nI_1 _) (by decide) rfl ?_
            refine zs_goto (tgt := 26) dX1_actOfOrder_97 (by decide) ?_
            refine zX.sub (L' := [(0, .ref (Λ 3)), (1, .int o), (2, .int (nI pl)), (3, .int (nI n)), (4, .int (fLeft (wW S (fWay S n F F)) (fOrd (wW S (fWay S n F F)) n o j).1 (fOrd (wW S (fWay S n F F)) n o j).2.1 (k + 1))), (5, .int (nI ((fOrd (wW S (fWay S n F F)) n o j).1))), (6, .int (nI (k + 1))), (7, .int (nI j))]) ⟨rfl, rfl, rfl, rfl, (show some (Value.int ((fLeft (wW S (fWay S n F F)) (fOrd (wW S (fWay S n F F)) n o j).1 (fOrd (wW S (fWay S n F F)) n o j).2.1 k) - (0 : Int32))) = some (Value.int (fLeft (wW S (fWay S n F F)) (fOrd (wW S (fWay S n F F)) n o j).1 (fOrd (wW S (fWay S n F F)) n o j).2.1 (k + 1))) from congrArg (fun z => some (Value.int z)) (by rw [show fLeft (wW S (fWay S n F F)) (fOrd (wW S (fWay S n F F)) n o j).1 (fOrd (wW S (fWay S n F F)) n o j).2.1 (k + 1) = fLeft (wW S (fWay S n F F)) (fOrd (wW S (fWay S n F F)) n o j).1 (fOrd (wW S (fWay S n F F)) n o j).2.1 k - (if fNext (wW S (fWay S n F F)) k (nI (fOrd (wW S (fWay S n F F)) n o j).1) = true then sW (wW S (fWay S n F F)) 10 ((fOrd (wW S (fWay S n F F)) n o j).1 ||| 2 ^ k) else 0) from rfl]; cases h9 : fNext (wW S (fWay S n F F)) k (nI (fOrd (wW S (fWay S n F F)) n o j).1) <;> simp_all [zb])), rfl, rfl, rfl, trivial⟩ ?_
            refine ih ?_
            intro f hf
            by_cases e : f = k
            · subst e
              unfold fCnd
              cases h9 : fNext (wW S (fWay S n F F)) f (nI (fOrd (wW S (fWay S n F F)) n o j).1) <;> simp_all [zb]
            · exact H f (by omega)
          · refine zs_aload_n (n := 76) dX1_actOfOrder_75 rfl rfl ?_
            refine zs_getr (b := (Λ 10)) (n := 79) dX1_actOfOrder_76 gf_X1_15 (hR.kd (lvC h3 (by omega))) (hR.pt (lvC h3 (by omega)) rfl (by decide)) rfl ?_
            refine zs_iload (n := 81) dX1_actOfOrder_79 rfl rfl ?_
            refine zs_iconst (v := 1) (n := 82) dX1_actOfOrder_81 (by decide) rfl ?_
            refine zs_iload (n := 84) dX1_actOfOrder_82 rfl rfl ?_
            refine zs_ishl (n := 85) dX1_actOfOrder_84 rfl ?_
            refine zs_ior (n := 86) dX1_actOfOrder_85 rfl ?_
            rw [zor_bit (by omega)]
            refine zs_ialdv (x := (sW (wW S (fWay S n F F)) 10 ((fOrd (wW S (fWay S n F F)) n o j).1 ||| 2 ^ k))) (n := 87) dX1_actOfOrder_86 (hR.kd (lvC h3 (by omega))) (by rw [show mN M (Λ 10) = 256 from (hR.ln (lvC h3 (by omega)) rfl (by decide))]; exact vp_in_nI (by first | exact hor | omega) (by omega)) (by rw [nI_clamp (by omega)]; exact hR.av (lvC h3 (by omega))) rfl ?_
            refine zs_goto (tgt := 91) dX1_actOfOrder_87 (by decide) ?_
            refine zs_isub (n := 92) dX1_actOfOrder_91 rfl ?_
            refine zs_istore (n := 94) dX1_actOfOrder_92 (by decide) rfl ?_
            refine zs_iinc (v := (nI (k + 1))) (n := 97) dX1_actOfOrder_94 rfl (nI_1 _) (by decide) rfl ?_
            refine zs_goto (tgt := 26) dX1_actOfOrder_97 (by decide) ?_
            refine zX.sub (L' := [(0, .ref (Λ 3)), (1, .int o), (2, .int (nI pl)), (3, .int (nI n)), (4, .int (fLeft (wW S (fWay S n F F)) (fOrd (wW S (fWay S n F F)) n o j).1 (fOrd (wW S (fWay S n F F)) n o j).2.1 (k + 1))), (5, .int (nI ((fOrd (wW S (fWay S n F F)) n o j).1))), (6, .int (nI (k + 1))), (7, .int (nI j))]) ⟨rfl, rfl, rfl, rfl, (show some (Value.int ((fLeft (wW S (fWay S n F F)) (fOrd (wW S (fWay S n F F)) n o j).1 (fOrd (wW S (fWay S n F F)) n o j).2.1 k) - (sW (wW S (fWay S n F F)) 10 ((fOrd (wW S (fWay S n F F)) n o j).1 ||| 2 ^ k)))) = some (Value.int (fLeft (wW S (fWay S n F F)) (fOrd (wW S (fWay S n F F)) n o j).1 (fOrd (wW S (fWay S n F F)) n o j).2.1 (k + 1))) from congrArg (fun z => some (Value.int z)) (by rw [show fLeft (wW S (fWay S n F F)) (fOrd (wW S (fWay S n F F)) n o j).1 (fOrd (wW S (fWay S n F F)) n o j).2.1 (k + 1) = fLeft (wW S (fWay S n F F)) (fOrd (wW S (fWay S n F F)) n o j).1 (fOrd (wW S (fWay S n F F)) n o j).2.1 k - (if fNext (wW S (fWay S n F F)) k (nI (fOrd (wW S (fWay S n F F)) n o j).1) = true then sW (wW S (fWay S n F F)) 10 ((fOrd (wW S (fWay S n F F)) n o j).1 ||| 2 ^ k) else 0) from rfl]; cases h9 : fNext (wW S (fWay S n F F)) k (nI (fOrd (wW S (fWay S n F F)) n o j).1) <;> simp_all [zb])), rfl, rfl, rfl, trivial⟩ ?_
            refine ih ?_
            intro f hf
            by_cases e : f = k
            · subst e
              unfold fCnd
              cases h9 : fNext (wW S (fWay S n F F)) f (nI (fOrd (wW S (fWay S n F F)) n o j).1) <;> simp_all [zb]
            · exact H f (by omega)
    · intro H
      have hsel : fSel (wW S (fWay S n F F)) n (fOrd (wW S (fWay S n F F)) n o j).1 (fOrd (wW S (fWay S n F F)) n o j).2.1 = n - 1 := zfst_none H
      refine zs_iload (n := 28) dX1_actOfOrder_26 rfl rfl ?_
      refine zs_iload_n (n := 29) dX1_actOfOrder_28 rfl rfl ?_
      refine zs_iconst (v := 1) (n := 30) dX1_actOfOrder_29 (by decide) rfl ?_
      refine zs_isub (n := 31) dX1_actOfOrder_30 rfl ?_
      refine zs_icmp_ge (tgt := 100) (n := 34) dX1_actOfOrder_31 (by decide) rfl (fun _ => ?_) (fun h => absurd (by rw [show (nI n - 1 : Int32) = nI (n - 1) from by rw [show (1 : Int32) = nI 1 from rfl, pk_sub (by omega)]]; exact nI_le (Nat.le_refl _) (by omega)) h)
      refine zs_iload (n := 102) dX1_actOfOrder_100 rfl rfl ?_
      refine zs_iconst (v := 1) (n := 103) dX1_actOfOrder_102 (by decide) rfl ?_
      refine zs_iload (n := 105) dX1_actOfOrder_103 rfl rfl ?_
      refine zs_ishl (n := 106) dX1_actOfOrder_105 rfl ?_
      refine zs_ior (n := 107) dX1_actOfOrder_106 rfl ?_
      rw [zor_bit (by omega)]
      refine zs_istore (n := 109) dX1_actOfOrder_107 (by decide) rfl ?_
      refine zs_iinc (v := (nI (j + 1))) (n := 112) dX1_actOfOrder_109 rfl (nI_1 _) (by decide) rfl ?_
      refine zs_goto (tgt := 17) dX1_actOfOrder_112 (by decide) ?_
      refine zX.sub (L' := [(0, .ref (Λ 3)), (1, .int o), (2, .int (nI pl)), (3, .int (nI n)), (4, .int ((fOrd (wW S (fWay S n F F)) n o (j + 1)).2.1)), (5, .int (nI ((fOrd (wW S (fWay S n F F)) n o (j + 1)).1))), (6, .int (nI ((fOrd (wW S (fWay S n F F)) n o (j + 1)).2.2))), (7, .int (nI (j + 1)))]) ⟨rfl, rfl, rfl, rfl, (show some (Value.int (fLeft (wW S (fWay S n F F)) (fOrd (wW S (fWay S n F F)) n o j).1 (fOrd (wW S (fWay S n F F)) n o j).2.1 (n - 1))) = some (Value.int ((fOrd (wW S (fWay S n F F)) n o (j + 1)).2.1)) from congrArg (fun z => some (Value.int z)) (by rw [show fOrd (wW S (fWay S n F F)) n o (j + 1) = ((fOrd (wW S (fWay S n F F)) n o j).1 ||| 2 ^ fSel (wW S (fWay S n F F)) n (fOrd (wW S (fWay S n F F)) n o j).1 (fOrd (wW S (fWay S n F F)) n o j).2.1, fLeft (wW S (fWay S n F F)) (fOrd (wW S (fWay S n F F)) n o j).1 (fOrd (wW S (fWay S n F F)) n o j).2.1 (fSel (wW S (fWay S n F F)) n (fOrd (wW S (fWay S n F F)) n o j).1 (fOrd (wW S (fWay S n F F)) n o j).2.1), fSel (wW S (fWay S n F F)) n (fOrd (wW S (fWay S n F F)) n o j).1 (fOrd (wW S (fWay S n F F)) n o j).2.1) from rfl, hsel])), (show some (Value.int (nI ((fOrd (wW S (fWay S n F F)) n o j).1 ||| 2 ^ (n - 1)))) = some (Value.int (nI ((fOrd (wW S (fWay S n F F)) n o (j + 1)).1))) from congrArg (fun z => some (Value.int z)) (by rw [show fOrd (wW S (fWay S n F F)) n o (j + 1) = ((fOrd (wW S (fWay S n F F)) n o j).1 ||| 2 ^ fSel (wW S (fWay S n F F)) n (fOrd (wW S (fWay S n F F)) n o j).1 (fOrd (wW S (fWay S n F F)) n o j).2.1, fLeft (wW S (fWay S n F F)) (fOrd (wW S (fWay S n F F)) n o j).1 (fOrd (wW S (fWay S n F F)) n o j).2.1 (fSel (wW S (fWay S n F F)) n (fOrd (wW S (fWay S n F F)) n o j).1 (fOrd (wW S (fWay S n F F)) n o j).2.1), fSel (wW S (fWay S n F F)) n (fOrd (wW S (fWay S n F F)) n o j).1 (fOrd (wW S (fWay S n F F)) n o j).2.1) from rfl, hsel])), (show some (Value.int (nI (n - 1))) = some (Value.int (nI ((fOrd (wW S (fWay S n F F)) n o (j + 1)).2.2))) from congrArg (fun z => some (Value.int z)) (by rw [show fOrd (wW S (fWay S n F F)) n o (j + 1) = ((fOrd (wW S (fWay S n F F)) n o j).1 ||| 2 ^ fSel (wW S (fWay S n F F)) n (fOrd (wW S (fWay S n F F)) n o j).1 (fOrd (wW S (fWay S n F F)) n o j).2.1, fLeft (wW S (fWay S n F F)) (fOrd (wW S (fWay S n F F)) n o j).1 (fOrd (wW S (fWay S n F F)) n o j).2.1 (fSel (wW S (fWay S n F F)) n (fOrd (wW S (fWay S n F F)) n o j).1 (fOrd (wW S (fWay S n F F)) n o j).2.1), fSel (wW S (fWay S n F F)) n (fOrd (wW S (fWay S n F F)) n o j).1 (fOrd (wW S (fWay S n F F)) n o j).2.1) from rfl, hsel])), rfl, trivial⟩ ?_
      exact ihj
    · intro f hf
      exact absurd hf (Nat.not_lt_zero f)
  · refine zs_iload (n := 19) dX1_actOfOrder_17 rfl rfl ?_
    refine zs_iload_n (n := 20) dX1_actOfOrder_19 rfl rfl ?_
    refine zs_icmp_gt (tgt := 115) (n := 23) dX1_actOfOrder_20 (by decide) rfl (fun _ => ?_) (fun h => absurd (nI_lt (Nat.lt_succ_self _) (by omega)) h)
    refine zs_iload (n := 117) dX1_actOfOrder_115 rfl rfl ?_
    refine zs_ireturn dX1_actOfOrder_117 ⟨_, rfl, rfl⟩ ?_
    exact hQ _ hR
end ZORDER
