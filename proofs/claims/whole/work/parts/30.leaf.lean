theorem ml_X8_41m : zwd (.methodLink RX8 41 Lib.Math.max.name) := ⟨tw_5 _ (List.mem_of_getElem? (i := 139) (by decide +kernel)), by decide +kernel⟩
theorem ml_X6_37m : zwd (.methodLink RX6 37 Lib.Math.abs.name) := ⟨tw_5 _ (List.mem_of_getElem? (i := 108) (by decide +kernel)), by decide +kernel⟩
theorem w_m1 : zwd (.static Lib.Math.max.name) := ⟨tw_3 _ (List.mem_of_getElem? (i := 64) (by decide +kernel)), by decide +kernel⟩
theorem w_m2 : zwd (.initialized "java/lang/Math") := ⟨tw_1 _ (List.mem_of_getElem? (i := 23) (by decide +kernel)), by decide +kernel⟩
theorem w_a1 : zwd (.static Lib.Math.abs.name) := ⟨tw_5 _ (List.mem_of_getElem? (i := 109) (by decide +kernel)), by decide +kernel⟩
theorem w_i1 : zwd (.static Lib.Math.min.name) := ⟨tw_3 _ (List.mem_of_getElem? (i := 111) (by decide +kernel)), by decide +kernel⟩
theorem w_m3 : zwd (.code Lib.Math.max.name Lib.Math.max.code 2 (some .int)) := ⟨tw_3 _ (List.mem_of_getElem? (i := 65) (by decide +kernel)), by decide +kernel⟩
theorem w_a3 : zwd (.code Lib.Math.abs.name Lib.Math.abs.code 1 (some .int)) := ⟨tw_5 _ (List.mem_of_getElem? (i := 110) (by decide +kernel)), by decide +kernel⟩
theorem w_i3 : zwd (.code Lib.Math.min.name Lib.Math.min.code 2 (some .int)) := ⟨tw_3 _ (List.mem_of_getElem? (i := 112) (by decide +kernel)), by decide +kernel⟩
/-! LEAVES of the class: each small method by a contract -/
def zb (b : Bool) : Int32 := cond b 1 0
section ZLEAF
variable {Z : zPar} {l : Launch} {M : zMem}
theorem m_isIndex {i k : Int32} : zD Z l 0 mth_X11_isIndex [.int i, .int k] M 0 0 (some (.int (zb (decide (¬ i < 0) && decide (¬ k ≤ i))))) M := by
  intro Q hQ
  show zX Z l 0 mth_X11_isIndex 0 [(0, .int i), (1, .int k)] [] M 0 0 Q
  refine zs_iload_n (n := 1) dX11_isIndex_0 rfl rfl ?_
  refine zs_if_lt (tgt := 13) (n := 4) dX11_isIndex_1 (by decide) rfl (fun h1 => ?_) (fun h1 => ?_)
  · refine zs_iconst (v := 0) (n := 14) dX11_isIndex_13 (by decide) rfl ?_
    refine zs_ireturn dX11_isIndex_14 ⟨_, rfl, rfl⟩ ?_
    first | (rw [show zb (decide (¬ i < 0) && decide (¬ k ≤ i)) = 0 from by simp [zb, *]] at hQ; exact hQ) | (rw [show zb (decide (¬ i < 0) && decide (¬ k ≤ i)) = 1 from by simp [zb, *]] at hQ; exact hQ)
  · refine zs_iload_n (n := 5) dX11_isIndex_4 rfl rfl ?_
    refine zs_iload_n (n := 6) dX11_isIndex_5 rfl rfl ?_
    refine zs_icmp_ge (tgt := 13) (n := 9) dX11_isIndex_6 (by decide) rfl (fun h6 => ?_) (fun h6 => ?_)
    · refine zs_iconst (v := 0) (n := 14) dX11_isIndex_13 (by decide) rfl ?_
      refine zs_ireturn dX11_isIndex_14 ⟨_, rfl, rfl⟩ ?_
      first | (rw [show zb (decide (¬ i < 0) && decide (¬ k ≤ i)) = 0 from by simp [zb, *]] at hQ; exact hQ) | (rw [show zb (decide (¬ i < 0) && decide (¬ k ≤ i)) = 1 from by simp [zb, *]] at hQ; exact hQ)
    · refine zs_iconst (v := 1) (n := 10) dX11_isIndex_9 (by decide) rfl ?_
      refine zs_goto (tgt := 14) dX11_isIndex_10 (by decide) ?_
      refine zs_ireturn dX11_isIndex_14 ⟨_, rfl, rfl⟩ ?_
      first | (rw [show zb (decide (¬ i < 0) && decide (¬ k ≤ i)) = 0 from by simp [zb, *]] at hQ; exact hQ) | (rw [show zb (decide (¬ i < 0) && decide (¬ k ≤ i)) = 1 from by simp [zb, *]] at hQ; exact hQ)
theorem m_isUnlawfulFire {a : Nat} (hK : mK M a = 15) : zD Z l 0 mth_X0_isUnlawfulFire [.ref a] M 0 0 (some (.int (zb (decide (¬ vI M a 164 = 0) && decide (vI M a 166 = 0))))) M := by
  intro Q hQ
  show zX Z l 0 mth_X0_isUnlawfulFire 0 [(0, .ref a)] [] M 0 0 Q
  refine zs_aload_n (n := 1) dX0_isUnlawfulFire_0 rfl rfl ?_
  refine zs_geti (n := 4) dX0_isUnlawfulFire_1 gf_X0_25 (by assumption) rfl ?_
  refine zs_if_eq (tgt := 18) (n := 7) dX0_isUnlawfulFire_4 (by decide) rfl (fun h4 => ?_) (fun h4 => ?_)
  · refine zs_iconst (v := 0) (n := 19) dX0_isUnlawfulFire_18 (by decide) rfl ?_
    refine zs_ireturn dX0_isUnlawfulFire_19 ⟨_, rfl, rfl⟩ ?_
    first | (rw [show zb (decide (¬ vI M a 164 = 0) && decide (vI M a 166 = 0)) = 0 from by simp [zb, *]] at hQ; exact hQ) | (rw [show zb (decide (¬ vI M a 164 = 0) && decide (vI M a 166 = 0)) = 1 from by simp [zb, *]] at hQ; exact hQ)
  · refine zs_aload_n (n := 8) dX0_isUnlawfulFire_7 rfl rfl ?_
    refine zs_geti (n := 11) dX0_isUnlawfulFire_8 gf_X0_32 (by assumption) rfl ?_
    refine zs_if_ne (tgt := 18) (n := 14) dX0_isUnlawfulFire_11 (by decide) rfl (fun h11 => ?_) (fun h11 => ?_)
    · refine zs_iconst (v := 0) (n := 19) dX0_isUnlawfulFire_18 (by decide) rfl ?_
      refine zs_ireturn dX0_isUnlawfulFire_19 ⟨_, rfl, rfl⟩ ?_
      first | (rw [show zb (decide (¬ vI M a 164 = 0) && decide (vI M a 166 = 0)) = 0 from by simp [zb, *]] at hQ; exact hQ) | (rw [show zb (decide (¬ vI M a 164 = 0) && decide (vI M a 166 = 0)) = 1 from by simp [zb, *]] at hQ; exact hQ)
    · refine zs_iconst (v := 1) (n := 15) dX0_isUnlawfulFire_14 (by decide) rfl ?_
      refine zs_goto (tgt := 19) dX0_isUnlawfulFire_15 (by decide) ?_
      refine zs_ireturn dX0_isUnlawfulFire_19 ⟨_, rfl, rfl⟩ ?_
      first | (rw [show zb (decide (¬ vI M a 164 = 0) && decide (vI M a 166 = 0)) = 0 from by simp [zb, *]] at hQ; exact hQ) | (rw [show zb (decide (¬ vI M a 164 = 0) && decide (vI M a 166 = 0)) = 1 from by simp [zb, *]] at hQ; exact hQ)
theorem m_Act_init {a : Nat} {n mi lo sk li fi : Int32} (hK : mK M a = 15) (hf : fi = 0 ∨ fi = 1) : zD Z l 0 mth_X0_init [.ref a, .int n, .int mi, .int lo, .int sk, .int li, .int fi] M 0 0 none (sI (sI (sI (sI (sI (sI (sI M a 160 n) a 161 mi) a 162 lo) a 163 sk) a 165 li) a 164 fi) a 168 (1 <<< (n &&& 31))) := by
  intro Q hQ
  show zX Z l 0 mth_X0_init 0 [(0, .ref a), (1, .int n), (2, .int mi), (3, .int lo), (4, .int sk), (5, .int li), (6, .int fi)] [] M 0 0 Q
  refine zs_aload_n (n := 1) dX0_init_0 rfl rfl ?_
  refine zs_objInit (n := 4) dX0_init_1 ml_X0_1 w_oi w_oc (by simp) rfl ?_
  refine zs_aload_n (n := 5) dX0_init_4 rfl rfl ?_
  refine zs_iload_n (n := 6) dX0_init_5 rfl rfl ?_
  refine zs_puti (n := 9) dX0_init_6 pf_X0_init_7 (by assumption) ⟨rfl, rfl⟩ rfl ?_
  refine zs_aload_n (n := 10) dX0_init_9 rfl rfl ?_
  refine zs_iload_n (n := 11) dX0_init_10 rfl rfl ?_
  refine zs_puti (n := 14) dX0_init_11 pf_X0_init_13 (by assumption) ⟨rfl, rfl⟩ rfl ?_
  refine zs_aload_n (n := 15) dX0_init_14 rfl rfl ?_
  refine zs_iload_n (n := 16) dX0_init_15 rfl rfl ?_
  refine zs_puti (n := 19) dX0_init_16 pf_X0_init_16 (by assumption) ⟨rfl, rfl⟩ rfl ?_
  refine zs_aload_n (n := 20) dX0_init_19 rfl rfl ?_
  refine zs_iload (n := 22) dX0_init_20 rfl rfl ?_
  refine zs_puti (n := 25) dX0_init_22 pf_X0_init_19 (by assumption) ⟨rfl, rfl⟩ rfl ?_
  refine zs_aload_n (n := 26) dX0_init_25 rfl rfl ?_
  refine zs_iload (n := 28) dX0_init_26 rfl rfl ?_
  refine zs_puti (n := 31) dX0_init_28 pf_X0_init_22 (by assumption) ⟨rfl, rfl⟩ rfl ?_
  refine zs_aload_n (n := 32) dX0_init_31 rfl rfl ?_
  refine zs_iload (n := 34) dX0_init_32 rfl rfl ?_
  refine zs_puti (n := 37) dX0_init_34 pf_X0_init_25 (by assumption) (by rcases hf with rfl | rfl <;> exact ⟨by decide, by decide⟩) rfl ?_
  refine zs_aload_n (n := 38) dX0_init_37 rfl rfl ?_
  refine zs_iconst (v := 1) (n := 39) dX0_init_38 (by decide) rfl ?_
  refine zs_iload_n (n := 40) dX0_init_39 rfl rfl ?_
  refine zs_ishl (n := 41) dX0_init_40 rfl ?_
  refine zs_puti (n := 44) dX0_init_41 pf_X0_init_29 (by assumption) ⟨rfl, rfl⟩ rfl ?_
  refine zs_return dX0_init_44 rfl ?_
  exact hQ
theorem m_Turn_init {t a : Nat} (hK : mK M t = 23) : zD Z l 0 mth_X8_init [.ref t, .ref a] M 0 0 none (sR M t 416 (some a)) := by
  intro Q hQ
  show zX Z l 0 mth_X8_init 0 [(0, .ref t), (1, .ref a)] [] M 0 0 Q
  refine zs_aload_n (n := 1) dX8_init_0 rfl rfl ?_
  refine zs_objInit (n := 4) dX8_init_1 ml_X8_3 w_oi w_oc (by simp) rfl ?_
  refine zs_aload_n (n := 5) dX8_init_4 rfl rfl ?_
  refine zs_aload_n (n := 6) dX8_init_5 rfl rfl ?_
  refine zs_putr (n := 9) dX8_init_6 pf_X8_init_9 (by assumption) ⟨rfl, rfl⟩ rfl ?_
  refine zs_return dX8_init_9 rfl ?_
  exact hQ
theorem m_lastIf {t a : Nat} {x : Int32} (hK : mK M t = 23) (ha : vR M t 416 = some a) (hKa : mK M a = 15) : zD Z l 0 mth_X8_lastIfBegunAt [.ref t, .int x] M 0 0 (some (.int (x + vI M a 161 - 1))) M := by
  intro Q hQ
  show zX Z l 0 mth_X8_lastIfBegunAt 0 [(0, .ref t), (1, .int x)] [] M 0 0 Q
  refine zs_iload_n (n := 1) dX8_lastIfBegunAt_0 rfl rfl ?_
  refine zs_aload_n (n := 2) dX8_lastIfBegunAt_1 rfl rfl ?_
  refine zs_getr (n := 5) dX8_lastIfBegunAt_2 gf_X8_9 (by assumption) (by assumption) rfl ?_
  refine zs_geti (n := 8) dX8_lastIfBegunAt_5 gf_X8_30 (by assumption) rfl ?_
  refine zs_iadd (n := 9) dX8_lastIfBegunAt_8 rfl ?_
  refine zs_iconst (v := 1) (n := 10) dX8_lastIfBegunAt_9 (by decide) rfl ?_
  refine zs_isub (n := 11) dX8_lastIfBegunAt_10 rfl ?_
  refine zs_ireturn dX8_lastIfBegunAt_11 ⟨_, rfl, rfl⟩ ?_
  exact hQ
theorem m_open {t a : Nat} {x : Int32} (hK : mK M t = 23) (ha : vR M t 416 = some a) (hKa : mK M a = 15) : zD Z l 1 mth_X8_open [.ref t, .int x] M 0 0 none (sI (sI (sI M t 417 x) t 418 (x + vI M a 161 - 1)) t 423 1) := by
  intro Q hQ
  show zX Z l 1 mth_X8_open 0 [(0, .ref t), (1, .int x)] [] M 0 0 Q
  refine zs_aload_n (n := 1) dX8_open_0 rfl rfl ?_
  refine zs_iload_n (n := 2) dX8_open_1 rfl rfl ?_
  refine zs_puti (n := 5) dX8_open_2 pf_X8_open_15 (by assumption) ⟨rfl, rfl⟩ rfl ?_
  refine zs_aload_n (n := 6) dX8_open_5 rfl rfl ?_
  refine zs_aload_n (n := 7) dX8_open_6 rfl rfl ?_
  refine zs_iload_n (n := 8) dX8_open_7 rfl rfl ?_
  refine zc_V (n := 11) (As := [.int _]) (ci := 13) (mc := 0) (ms := 0) dX8_open_8 ok_X8_lastIfBegunAt ⟨ml_X8_19, im_X8_lastIfBegunAt, sl_X8_lastIfBegunAt⟩ rfl (by assumption) rfl (Nat.le_of_ble_eq_true rfl) (by simp) (by omega) (Nat.le_refl _) (Nat.le_refl _) rfl rfl (m_lastIf (by assumption) (by assumption) (by assumption)) ?_
  refine zs_puti (n := 14) dX8_open_11 pf_X8_open_23 (by assumption) ⟨rfl, rfl⟩ rfl ?_
  refine zs_aload_n (n := 15) dX8_open_14 rfl rfl ?_
  refine zs_iconst (v := 1) (n := 16) dX8_open_15 (by decide) rfl ?_
  refine zs_puti (n := 19) dX8_open_16 pf_X8_open_26 (by assumption) ⟨rfl, rfl⟩ rfl ?_
  refine zs_return dX8_open_19 rfl ?_
  exact hQ
theorem m_move {t : Nat} {x y : Int32} (hK : mK M t = 23) : zD Z l 0 mth_X8_move [.ref t, .int x, .int y] M 0 0 none (sI (sI M t 419 (vI M t 419 + (x - y))) t 420 (if vI M t 420 < vI M t 419 + (x - y) then vI M t 419 + (x - y) else vI M t 420)) := by
  intro Q hQ
  show zX Z l 0 mth_X8_move 0 [(0, .ref t), (1, .int x), (2, .int y)] [] M 0 0 Q
  refine zs_aload_n (n := 1) dX8_move_0 rfl rfl ?_
  refine zs_dup (n := 2) dX8_move_1 rfl rfl ?_
  refine zs_geti (n := 5) dX8_move_2 gf_X8_35 (by assumption) rfl ?_
  refine zs_iload_n (n := 6) dX8_move_5 rfl rfl ?_
  refine zs_iload_n (n := 7) dX8_move_6 rfl rfl ?_
  refine zs_isub (n := 8) dX8_move_7 rfl ?_
  refine zs_iadd (n := 9) dX8_move_8 rfl ?_
  refine zs_puti (n := 12) dX8_move_9 pf_X8_move_35 (by assumption) ⟨rfl, rfl⟩ rfl ?_
  refine zs_aload_n (n := 13) dX8_move_12 rfl rfl ?_
  refine zs_aload_n (n := 14) dX8_move_13 rfl rfl ?_
  refine zs_geti (n := 17) dX8_move_14 gf_X8_38 (by assumption) rfl ?_
  refine zs_aload_n (n := 18) dX8_move_17 rfl rfl ?_
  refine zs_geti (n := 21) dX8_move_18 gf_X8_35 (by assumption) rfl ?_
  rw [show vI (sI M t 419 (vI M t 419 + (x - y))) t 419 = vI M t 419 + (x - y) from u2_at]
  refine zs_max (n := 24) dX8_move_21 ⟨ml_X8_41m, w_m1, w_m2, w_m3⟩ (by simp) rfl ?_
  refine zs_puti (n := 27) dX8_move_24 pf_X8_move_38 (by assumption) ⟨rfl, rfl⟩ rfl ?_
  refine zs_return dX8_move_27 rfl ?_
  exact hQ
theorem m_breaksNow {t : Nat} (hK : mK M t = 23) : zD Z l 0 mth_X8_breaksNow [.ref t] M 0 0 (some (.int (zb (decide (¬ vI M t 420 < 10) && decide (¬ (3 : Int32) ≤ vI M t 419))))) M := by
  intro Q hQ
  show zX Z l 0 mth_X8_breaksNow 0 [(0, .ref t)] [] M 0 0 Q
  refine zs_aload_n (n := 1) dX8_breaksNow_0 rfl rfl ?_
  refine zs_geti (n := 4) dX8_breaksNow_1 gf_X8_38 (by assumption) rfl ?_
  refine zs_bipush (v := 10) (n := 6) dX8_breaksNow_4 (by decide) rfl ?_
  refine zs_icmp_lt (tgt := 21) (n := 9) dX8_breaksNow_6 (by decide) rfl (fun h6 => ?_) (fun h6 => ?_)
  · refine zs_iconst (v := 0) (n := 22) dX8_breaksNow_21 (by decide) rfl ?_
    refine zs_ireturn dX8_breaksNow_22 ⟨_, rfl, rfl⟩ ?_
    first | (rw [show zb (decide (¬ vI M t 420 < 10) && decide (¬ (3 : Int32) ≤ vI M t 419)) = 0 from by simp [zb, *]] at hQ; exact hQ) | (rw [show zb (decide (¬ vI M t 420 < 10) && decide (¬ (3 : Int32) ≤ vI M t 419)) = 1 from by simp [zb, *]] at hQ; exact hQ)
  · refine zs_aload_n (n := 10) dX8_breaksNow_9 rfl rfl ?_
    refine zs_geti (n := 13) dX8_breaksNow_10 gf_X8_35 (by assumption) rfl ?_
    refine zs_iconst (v := 3) (n := 14) dX8_breaksNow_13 (by decide) rfl ?_
    refine zs_icmp_ge (tgt := 21) (n := 17) dX8_breaksNow_14 (by decide) rfl (fun h14 => ?_) (fun h14 => ?_)
    · refine zs_iconst (v := 0) (n := 22) dX8_breaksNow_21 (by decide) rfl ?_
      refine zs_ireturn dX8_breaksNow_22 ⟨_, rfl, rfl⟩ ?_
      first | (rw [show zb (decide (¬ vI M t 420 < 10) && decide (¬ (3 : Int32) ≤ vI M t 419)) = 0 from by simp [zb, *]] at hQ; exact hQ) | (rw [show zb (decide (¬ vI M t 420 < 10) && decide (¬ (3 : Int32) ≤ vI M t 419)) = 1 from by simp [zb, *]] at hQ; exact hQ)
    · refine zs_iconst (v := 1) (n := 18) dX8_breaksNow_17 (by decide) rfl ?_
      refine zs_goto (tgt := 22) dX8_breaksNow_18 (by decide) ?_
      refine zs_ireturn dX8_breaksNow_22 ⟨_, rfl, rfl⟩ ?_
      first | (rw [show zb (decide (¬ vI M t 420 < 10) && decide (¬ (3 : Int32) ≤ vI M t 419)) = 0 from by simp [zb, *]] at hQ; exact hQ) | (rw [show zb (decide (¬ vI M t 420 < 10) && decide (¬ (3 : Int32) ≤ vI M t 419)) = 1 from by simp [zb, *]] at hQ; exact hQ)
theorem m_breakAt {t : Nat} {x : Int32} (hK : mK M t = 23) : zD Z l 0 mth_X8_breakAt [.ref t, .int x] M 0 0 none (sI (sI M t 424 1) t 418 x) := by
  intro Q hQ
  show zX Z l 0 mth_X8_breakAt 0 [(0, .ref t), (1, .int x)] [] M 0 0 Q
  refine zs_aload_n (n := 1) dX8_breakAt_0 rfl rfl ?_
  refine zs_iconst (v := 1) (n := 2) dX8_breakAt_1 (by decide) rfl ?_
  refine zs_puti (n := 5) dX8_breakAt_2 pf_X8_breakAt_47 (by assumption) ⟨rfl, rfl⟩ rfl ?_
  refine zs_aload_n (n := 6) dX8_breakAt_5 rfl rfl ?_
  refine zs_iload_n (n := 7) dX8_breakAt_6 rfl rfl ?_
  refine zs_puti (n := 10) dX8_breakAt_7 pf_X8_breakAt_23 (by assumption) ⟨rfl, rfl⟩ rfl ?_
  refine zs_return dX8_breakAt_10 rfl ?_
  exact hQ
/-- what the hat brings -/
def fHat (M : zMem) (t a : Nat) (wet : Int32) : Int32 := if wet = 0 then (vI M t 419 - vI M t 419 * 3 * vI M a 165 / 100) * (vI M a 163 + vI M a 165) else (vI M t 419 - vI M t 419 * 3 * vI M a 165 / 100) * (vI M a 163 + vI M a 165) / 2
theorem m_passHat {t a : Nat} {w : Int32} (hK : mK M t = 23) (ha : vR M t 416 = some a) (hKa : mK M a = 15) : zD Z l 0 mth_X8_passHat [.ref t, .int w] M 0 0 none (sI M t 421 (fHat M t a w)) := by
  intro Q hQ
  show zX Z l 0 mth_X8_passHat 0 [(0, .ref t), (1, .int w)] [] M 0 0 Q
  refine zs_aload_n (n := 1) dX8_passHat_0 rfl rfl ?_
  refine zs_geti (n := 4) dX8_passHat_1 gf_X8_35 (by assumption) rfl ?_
  refine zs_iconst (v := 3) (n := 5) dX8_passHat_4 (by decide) rfl ?_
  refine zs_imul (n := 6) dX8_passHat_5 rfl ?_
  refine zs_aload_n (n := 7) dX8_passHat_6 rfl rfl ?_
  refine zs_getr (n := 10) dX8_passHat_7 gf_X8_9 (by assumption) (by assumption) rfl ?_
  refine zs_geti (n := 13) dX8_passHat_10 gf_X8_50 (by assumption) rfl ?_
  refine zs_imul (n := 14) dX8_passHat_13 rfl ?_
  refine zs_bipush (v := 100) (n := 16) dX8_passHat_14 (by decide) rfl ?_
  refine zs_idiv (n := 17) dX8_passHat_16 (by decide) rfl ?_
  refine zs_istore_n (n := 18) dX8_passHat_17 (by decide) rfl ?_
  refine zs_aload_n (n := 19) dX8_passHat_18 rfl rfl ?_
  refine zs_geti (n := 22) dX8_passHat_19 gf_X8_35 (by assumption) rfl ?_
  refine zs_iload_n (n := 23) dX8_passHat_22 rfl rfl ?_
  refine zs_isub (n := 24) dX8_passHat_23 rfl ?_
  refine zs_aload_n (n := 25) dX8_passHat_24 rfl rfl ?_
  refine zs_getr (n := 28) dX8_passHat_25 gf_X8_9 (by assumption) (by assumption) rfl ?_
  refine zs_geti (n := 31) dX8_passHat_28 gf_X8_53 (by assumption) rfl ?_
  refine zs_aload_n (n := 32) dX8_passHat_31 rfl rfl ?_
  refine zs_getr (n := 35) dX8_passHat_32 gf_X8_9 (by assumption) (by assumption) rfl ?_
  refine zs_geti (n := 38) dX8_passHat_35 gf_X8_50 (by assumption) rfl ?_
  refine zs_iadd (n := 39) dX8_passHat_38 rfl ?_
  refine zs_imul (n := 40) dX8_passHat_39 rfl ?_
  refine zs_istore_n (n := 41) dX8_passHat_40 (by decide) rfl ?_
  refine zs_aload_n (n := 42) dX8_passHat_41 rfl rfl ?_
  refine zs_iload_n (n := 43) dX8_passHat_42 rfl rfl ?_
  refine zs_if_eq (tgt := 52) (n := 46) dX8_passHat_43 (by decide) rfl (fun h43 => ?_) (fun h43 => ?_)
  · refine zs_iload_n (n := 53) dX8_passHat_52 rfl rfl ?_
    refine zs_puti (n := 56) dX8_passHat_53 pf_X8_passHat_56 (by assumption) ⟨rfl, rfl⟩ rfl ?_
    refine zs_return dX8_passHat_56 rfl ?_
    unfold fHat at hQ
    first | (rw [if_pos (by assumption)] at hQ; exact hQ) | (rw [if_neg (by assumption)] at hQ; exact hQ)
  · refine zs_iload_n (n := 47) dX8_passHat_46 rfl rfl ?_
    refine zs_iconst (v := 2) (n := 48) dX8_passHat_47 (by decide) rfl ?_
    refine zs_idiv (n := 49) dX8_passHat_48 (by decide) rfl ?_
    refine zs_goto (tgt := 53) dX8_passHat_49 (by decide) ?_
    refine zs_puti (n := 56) dX8_passHat_53 pf_X8_passHat_56 (by assumption) ⟨rfl, rfl⟩ rfl ?_
    refine zs_return dX8_passHat_56 rfl ?_
    unfold fHat at hQ
    first | (rw [if_pos (by assumption)] at hQ; exact hQ) | (rw [if_neg (by assumption)] at hQ; exact hQ)
theorem m_wasGood {t : Nat} (hK : mK M t = 23) : zD Z l 0 mth_X8_wasGood [.ref t] M 0 0 (some (.int (zb (decide (¬ vI M t 423 = 0) && decide (vI M t 424 = 0))))) M := by
  intro Q hQ
  show zX Z l 0 mth_X8_wasGood 0 [(0, .ref t)] [] M 0 0 Q
  refine zs_aload_n (n := 1) dX8_wasGood_0 rfl rfl ?_
  refine zs_geti (n := 4) dX8_wasGood_1 gf_X8_26 (by assumption) rfl ?_
  refine zs_if_eq (tgt := 18) (n := 7) dX8_wasGood_4 (by decide) rfl (fun h4 => ?_) (fun h4 => ?_)
  · refine zs_iconst (v := 0) (n := 19) dX8_wasGood_18 (by decide) rfl ?_
    refine zs_ireturn dX8_wasGood_19 ⟨_, rfl, rfl⟩ ?_
    first | (rw [show zb (decide (¬ vI M t 423 = 0) && decide (vI M t 424 = 0)) = 0 from by simp [zb, *]] at hQ; exact hQ) | (rw [show zb (decide (¬ vI M t 423 = 0) && decide (vI M t 424 = 0)) = 1 from by simp [zb, *]] at hQ; exact hQ)
  · refine zs_aload_n (n := 8) dX8_wasGood_7 rfl rfl ?_
    refine zs_geti (n := 11) dX8_wasGood_8 gf_X8_47 (by assumption) rfl ?_
    refine zs_if_ne (tgt := 18) (n := 14) dX8_wasGood_11 (by decide) rfl (fun h11 => ?_) (fun h11 => ?_)
    · refine zs_iconst (v := 0) (n := 19) dX8_wasGood_18 (by decide) rfl ?_
      refine zs_ireturn dX8_wasGood_19 ⟨_, rfl, rfl⟩ ?_
      first | (rw [show zb (decide (¬ vI M t 423 = 0) && decide (vI M t 424 = 0)) = 0 from by simp [zb, *]] at hQ; exact hQ) | (rw [show zb (decide (¬ vI M t 423 = 0) && decide (vI M t 424 = 0)) = 1 from by simp [zb, *]] at hQ; exact hQ)
    · refine zs_iconst (v := 1) (n := 15) dX8_wasGood_14 (by decide) rfl ?_
      refine zs_goto (tgt := 19) dX8_wasGood_15 (by decide) ?_
      refine zs_ireturn dX8_wasGood_19 ⟨_, rfl, rfl⟩ ?_
      first | (rw [show zb (decide (¬ vI M t 423 = 0) && decide (vI M t 424 = 0)) = 0 from by simp [zb, *]] at hQ; exact hQ) | (rw [show zb (decide (¬ vI M t 423 = 0) && decide (vI M t 424 = 0)) = 1 from by simp [zb, *]] at hQ; exact hQ)
theorem m_Visit_init {v p : Nat} {x : Int32} (hK : mK M v = 24) : zD Z l 0 mth_X9_init [.ref v, .ref p, .int x] M 0 0 none (sI (sI (sR M v 448 (some p)) v 449 x) v 450 45) := by
  intro Q hQ
  show zX Z l 0 mth_X9_init 0 [(0, .ref v), (1, .ref p), (2, .int x)] [] M 0 0 Q
  refine zs_aload_n (n := 1) dX9_init_0 rfl rfl ?_
  refine zs_objInit (n := 4) dX9_init_1 ml_X9_1 w_oi w_oc (by simp) rfl ?_
  refine zs_aload_n (n := 5) dX9_init_4 rfl rfl ?_
  refine zs_aload_n (n := 6) dX9_init_5 rfl rfl ?_
  refine zs_putr (n := 9) dX9_init_6 pf_X9_init_7 (by assumption) ⟨rfl, rfl⟩ rfl ?_
  refine zs_aload_n (n := 10) dX9_init_9 rfl rfl ?_
  refine zs_iload_n (n := 11) dX9_init_10 rfl rfl ?_
  refine zs_puti (n := 14) dX9_init_11 pf_X9_init_13 (by assumption) ⟨rfl, rfl⟩ rfl ?_
  refine zs_aload_n (n := 15) dX9_init_14 rfl rfl ?_
  refine zs_bipush (v := 45) (n := 17) dX9_init_15 (by decide) rfl ?_
  refine zs_puti (n := 20) dX9_init_17 pf_X9_init_17 (by assumption) ⟨by decide, by decide⟩ rfl ?_
  refine zs_return dX9_init_20 rfl ?_
  exact hQ
theorem m_isRaining {w : Nat} {x : Int32} (hK : mK M w = 25) : zD Z l 0 mth_X10_isRaining [.ref w, .int x] M 0 0 (some (.int (zb (decide (¬ x < vI M w 480) && decide (¬ vI M w 481 < x))))) M := by
  intro Q hQ
  show zX Z l 0 mth_X10_isRaining 0 [(0, .ref w), (1, .int x)] [] M 0 0 Q
  refine zs_iload_n (n := 1) dX10_isRaining_0 rfl rfl ?_
  refine zs_aload_n (n := 2) dX10_isRaining_1 rfl rfl ?_
  refine zs_geti (n := 5) dX10_isRaining_2 gf_X10_13 (by assumption) rfl ?_
  refine zs_icmp_lt (tgt := 20) (n := 8) dX10_isRaining_5 (by decide) rfl (fun h5 => ?_) (fun h5 => ?_)
  · refine zs_iconst (v := 0) (n := 21) dX10_isRaining_20 (by decide) rfl ?_
    refine zs_ireturn dX10_isRaining_21 ⟨_, rfl, rfl⟩ ?_
    first | (rw [show zb (decide (¬ x < vI M w 480) && decide (¬ vI M w 481 < x)) = 0 from by simp [zb, *]] at hQ; exact hQ) | (rw [show zb (decide (¬ x < vI M w 480) && decide (¬ vI M w 481 < x)) = 1 from by simp [zb, *]] at hQ; exact hQ)
  · refine zs_iload_n (n := 9) dX10_isRaining_8 rfl rfl ?_
    refine zs_aload_n (n := 10) dX10_isRaining_9 rfl rfl ?_
    refine zs_geti (n := 13) dX10_isRaining_10 gf_X10_7 (by assumption) rfl ?_
    refine zs_icmp_gt (tgt := 20) (n := 16) dX10_isRaining_13 (by decide) rfl (fun h13 => ?_) (fun h13 => ?_)
    · refine zs_iconst (v := 0) (n := 21) dX10_isRaining_20 (by decide) rfl ?_
      refine zs_ireturn dX10_isRaining_21 ⟨_, rfl, rfl⟩ ?_
      first | (rw [show zb (decide (¬ x < vI M w 480) && decide (¬ vI M w 481 < x)) = 0 from by simp [zb, *]] at hQ; exact hQ) | (rw [show zb (decide (¬ x < vI M w 480) && decide (¬ vI M w 481 < x)) = 1 from by simp [zb, *]] at hQ; exact hQ)
    · refine zs_iconst (v := 1) (n := 17) dX10_isRaining_16 (by decide) rfl ?_
      refine zs_goto (tgt := 21) dX10_isRaining_17 (by decide) ?_
      refine zs_ireturn dX10_isRaining_21 ⟨_, rfl, rfl⟩ ?_
      first | (rw [show zb (decide (¬ x < vI M w 480) && decide (¬ vI M w 481 < x)) = 0 from by simp [zb, *]] at hQ; exact hQ) | (rw [show zb (decide (¬ x < vI M w 480) && decide (¬ vI M w 481 < x)) = 1 from by simp [zb, *]] at hQ; exact hQ)
theorem m_rainMinutes {w : Nat} (hK : mK M w = 25) : zD Z l 0 mth_X10_rainMinutes [.ref w] M 0 0 (some (.int (vI M w 481 - vI M w 480 + 1))) M := by
  intro Q hQ
  show zX Z l 0 mth_X10_rainMinutes 0 [(0, .ref w)] [] M 0 0 Q
  refine zs_aload_n (n := 1) dX10_rainMinutes_0 rfl rfl ?_
  refine zs_geti (n := 4) dX10_rainMinutes_1 gf_X10_7 (by assumption) rfl ?_
  refine zs_aload_n (n := 5) dX10_rainMinutes_4 rfl rfl ?_
  refine zs_geti (n := 8) dX10_rainMinutes_5 gf_X10_13 (by assumption) rfl ?_
  refine zs_isub (n := 9) dX10_rainMinutes_8 rfl ?_
  refine zs_iconst (v := 1) (n := 10) dX10_rainMinutes_9 (by decide) rfl ?_
  refine zs_iadd (n := 11) dX10_rainMinutes_10 rfl ?_
  refine zs_ireturn dX10_rainMinutes_11 ⟨_, rfl, rfl⟩ ?_
  exact hQ
theorem m_endRain {w : Nat} (hK : mK M w = 25) : zD Z l 0 mth_X10_endRain [.ref w] M 0 0 none (sI (sI M w 480 0) w 481 (-1)) := by
  intro Q hQ
  show zX Z l 0 mth_X10_endRain 0 [(0, .ref w)] [] M 0 0 Q
  refine zs_aload_n (n := 1) dX10_endRain_0 rfl rfl ?_
  refine zs_iconst (v := 0) (n := 2) dX10_endRain_1 (by decide) rfl ?_
  refine zs_puti (n := 5) dX10_endRain_2 pf_X10_endRain_13 (by assumption) ⟨rfl, rfl⟩ rfl ?_
  refine zs_aload_n (n := 6) dX10_endRain_5 rfl rfl ?_
  refine zs_iconst (v := -1) (n := 7) dX10_endRain_6 (by decide) rfl ?_
  refine zs_puti (n := 10) dX10_endRain_7 pf_X10_endRain_7 (by assumption) ⟨rfl, rfl⟩ rfl ?_
  refine zs_return dX10_endRain_10 rfl ?_
  exact hQ
theorem m_Weather_init {w : Nat} (hK : mK M w = 25) : zD Z l 0 mth_X10_init [.ref w] M 0 0 none (sI M w 481 (-1)) := by
  intro Q hQ
  show zX Z l 0 mth_X10_init 0 [(0, .ref w)] [] M 0 0 Q
  refine zs_aload_n (n := 1) dX10_init_0 rfl rfl ?_
  refine zs_objInit (n := 4) dX10_init_1 ml_X10_1 w_oi w_oc (by simp) rfl ?_
  refine zs_aload_n (n := 5) dX10_init_4 rfl rfl ?_
  refine zs_iconst (v := -1) (n := 6) dX10_init_5 (by decide) rfl ?_
  refine zs_puti (n := 9) dX10_init_6 pf_X10_init_7 (by assumption) ⟨rfl, rfl⟩ rfl ?_
  refine zs_return dX10_init_9 rfl ?_
  exact hQ
theorem m_Law_init {w : Nat} (hK : mK M w = 19) : zD Z l 0 mth_X4_init [.ref w] M 0 0 none (sI M w 288 99) := by
  intro Q hQ
  show zX Z l 0 mth_X4_init 0 [(0, .ref w)] [] M 0 0 Q
  refine zs_aload_n (n := 1) dX4_init_0 rfl rfl ?_
  refine zs_objInit (n := 4) dX4_init_1 ml_X4_3 w_oi w_oc (by simp) rfl ?_
  refine zs_aload_n (n := 5) dX4_init_4 rfl rfl ?_
  refine zs_bipush (v := 99) (n := 7) dX4_init_5 (by decide) rfl ?_
  refine zs_puti (n := 10) dX4_init_7 pf_X4_init_9 (by assumption) ⟨rfl, rfl⟩ rfl ?_
  refine zs_return dX4_init_10 rfl ?_
  exact hQ
theorem m_has {u r y : Nat} {x : Int32} (hK : mK M u = 16) (hr : vR M u 192 = some r) (hKr : mK M r = 1) (hi : vp_in (nI y) (mN M r)) : zD Z l 0 mth_X1_has [.ref u, .int x, .int (nI y)] M 0 0 (some (.int (zb (decide (¬ aI M r (nI y).toNatClampNeg &&& (1 : Int32) <<< (x &&& 31) = 0))))) M := by
  intro Q hQ
  show zX Z l 0 mth_X1_has 0 [(0, .ref u), (1, .int x), (2, .int (nI y))] [] M 0 0 Q
  refine zs_aload_n (n := 1) dX1_has_0 rfl rfl ?_
  refine zs_getr (n := 4) dX1_has_1 gf_X1_9 (by assumption) (by assumption) rfl ?_
  refine zs_iload_n (n := 5) dX1_has_4 rfl rfl ?_
  refine zs_iald (n := 6) dX1_has_5 (by assumption) (by assumption) rfl ?_
  refine zs_iconst (v := 1) (n := 7) dX1_has_6 (by decide) rfl ?_
  refine zs_iload_n (n := 8) dX1_has_7 rfl rfl ?_
  refine zs_ishl (n := 9) dX1_has_8 rfl ?_
  refine zs_iand (n := 10) dX1_has_9 rfl ?_
  refine zs_if_eq (tgt := 17) (n := 13) dX1_has_10 (by decide) rfl (fun h10 => ?_) (fun h10 => ?_)
  · refine zs_iconst (v := 0) (n := 18) dX1_has_17 (by decide) rfl ?_
    refine zs_ireturn dX1_has_18 ⟨_, rfl, rfl⟩ ?_
    first | (rw [show zb (decide (¬ aI M r (nI y).toNatClampNeg &&& (1 : Int32) <<< (x &&& 31) = 0)) = 0 from by simp [zb, *]] at hQ; exact hQ) | (rw [show zb (decide (¬ aI M r (nI y).toNatClampNeg &&& (1 : Int32) <<< (x &&& 31) = 0)) = 1 from by simp [zb, *]] at hQ; exact hQ)
  · refine zs_iconst (v := 1) (n := 14) dX1_has_13 (by decide) rfl ?_
    refine zs_goto (tgt := 18) dX1_has_14 (by decide) ?_
    refine zs_ireturn dX1_has_18 ⟨_, rfl, rfl⟩ ?_
    first | (rw [show zb (decide (¬ aI M r (nI y).toNatClampNeg &&& (1 : Int32) <<< (x &&& 31) = 0)) = 0 from by simp [zb, *]] at hQ; exact hQ) | (rw [show zb (decide (¬ aI M r (nI y).toNatClampNeg &&& (1 : Int32) <<< (x &&& 31) = 0)) = 1 from by simp [zb, *]] at hQ; exact hQ)
theorem m_put {u r y : Nat} {x : Int32} (hK : mK M u = 16) (hr : vR M u 192 = some r) (hKr : mK M r = 1) (hi : vp_in (nI y) (mN M r)) : zD Z l 0 mth_X1_put [.ref u, .int x, .int (nI y)] M 0 0 none (sAI M r (nI y).toNatClampNeg (aI M r (nI y).toNatClampNeg ||| (1 : Int32) <<< (x &&& 31))) := by
  intro Q hQ
  show zX Z l 0 mth_X1_put 0 [(0, .ref u), (1, .int x), (2, .int (nI y))] [] M 0 0 Q
  refine zs_aload_n (n := 1) dX1_put_0 rfl rfl ?_
  refine zs_getr (n := 4) dX1_put_1 gf_X1_9 (by assumption) (by assumption) rfl ?_
  refine zs_iload_n (n := 5) dX1_put_4 rfl rfl ?_
  refine zs_dup2 (n := 6) dX1_put_5 rfl rfl rfl ?_
  refine zs_iald (n := 7) dX1_put_6 (by assumption) (by assumption) rfl ?_
  refine zs_iconst (v := 1) (n := 8) dX1_put_7 (by decide) rfl ?_
  refine zs_iload_n (n := 9) dX1_put_8 rfl rfl ?_
  refine zs_ishl (n := 10) dX1_put_9 rfl ?_
  refine zs_ior (n := 11) dX1_put_10 rfl ?_
  refine zs_iast (n := 12) dX1_put_11 (by assumption) (by assumption) rfl ?_
  refine zs_return dX1_put_12 rfl ?_
  exact hQ
theorem m_take {u r y : Nat} {x : Int32} (hK : mK M u = 16) (hr : vR M u 192 = some r) (hKr : mK M r = 1) (hi : vp_in (nI y) (mN M r)) : zD Z l 0 mth_X1_take [.ref u, .int x, .int (nI y)] M 0 0 none (sAI M r (nI y).toNatClampNeg (aI M r (nI y).toNatClampNeg &&& ((1 : Int32) <<< (x &&& 31) ^^^ (-1)))) := by
  intro Q hQ
  show zX Z l 0 mth_X1_take 0 [(0, .ref u), (1, .int x), (2, .int (nI y))] [] M 0 0 Q
  refine zs_aload_n (n := 1) dX1_take_0 rfl rfl ?_
  refine zs_getr (n := 4) dX1_take_1 gf_X1_9 (by assumption) (by assumption) rfl ?_
  refine zs_iload_n (n := 5) dX1_take_4 rfl rfl ?_
  refine zs_dup2 (n := 6) dX1_take_5 rfl rfl rfl ?_
  refine zs_iald (n := 7) dX1_take_6 (by assumption) (by assumption) rfl ?_
  refine zs_iconst (v := 1) (n := 8) dX1_take_7 (by decide) rfl ?_
  refine zs_iload_n (n := 9) dX1_take_8 rfl rfl ?_
  refine zs_ishl (n := 10) dX1_take_9 rfl ?_
  refine zs_iconst (v := -1) (n := 11) dX1_take_10 (by decide) rfl ?_
  refine zs_ixor (n := 12) dX1_take_11 rfl ?_
  refine zs_iand (n := 13) dX1_take_12 rfl ?_
  refine zs_iast (n := 14) dX1_take_13 (by assumption) (by assumption) rfl ?_
  refine zs_return dX1_take_14 rfl ?_
  exact hQ
theorem m_yardsTo {p q : Nat} (hK : mK M p = 21) (hKq : mK M q = 21) : zD Z l 0 mth_X6_yardsTo [.ref p, .ref q] M 0 0 (some (.int (if 0 ≤ vI M p 352 - vI M q 352 then vI M p 352 - vI M q 352 else 0 - (vI M p 352 - vI M q 352)))) M := by
  intro Q hQ
  show zX Z l 0 mth_X6_yardsTo 0 [(0, .ref p), (1, .ref q)] [] M 0 0 Q
  refine zs_aload_n (n := 1) dX6_yardsTo_0 rfl rfl ?_
  refine zs_geti (n := 4) dX6_yardsTo_1 gf_X6_9 (by assumption) rfl ?_
  refine zs_aload_n (n := 5) dX6_yardsTo_4 rfl rfl ?_
  refine zs_geti (n := 8) dX6_yardsTo_5 gf_X6_9 (by assumption) rfl ?_
  refine zs_isub (n := 9) dX6_yardsTo_8 rfl ?_
  refine zs_abs (n := 12) dX6_yardsTo_9 ⟨ml_X6_37m, w_a1, w_m2, w_a3⟩ (by simp) rfl ?_
  refine zs_ireturn dX6_yardsTo_12 ⟨_, rfl, rfl⟩ ?_
  exact hQ
theorem m_loudnessAt {p q a : Nat} (hK : mK M p = 21) (hKq : mK M q = 21) (hKa : mK M a = 15) : zD Z l 1 mth_X6_loudnessAt [.ref p, .ref q, .ref a] M 0 0 (some (.int (10 * vI M a 162 + vI M p 353 - (if 0 ≤ vI M p 352 - vI M q 352 then vI M p 352 - vI M q 352 else 0 - (vI M p 352 - vI M q 352))))) M := by
  intro Q hQ
  show zX Z l 1 mth_X6_loudnessAt 0 [(0, .ref p), (1, .ref q), (2, .ref a)] [] M 0 0 Q
  refine zs_bipush (v := 10) (n := 2) dX6_loudnessAt_0 (by decide) rfl ?_
  refine zs_aload_n (n := 3) dX6_loudnessAt_2 rfl rfl ?_
  refine zs_geti (n := 6) dX6_loudnessAt_3 gf_X6_43 (by assumption) rfl ?_
  refine zs_imul (n := 7) dX6_loudnessAt_6 rfl ?_
  refine zs_aload_n (n := 8) dX6_loudnessAt_7 rfl rfl ?_
  refine zs_geti (n := 11) dX6_loudnessAt_8 gf_X6_15 (by assumption) rfl ?_
  refine zs_iadd (n := 12) dX6_loudnessAt_11 rfl ?_
  refine zs_aload_n (n := 13) dX6_loudnessAt_12 rfl rfl ?_
  refine zs_aload_n (n := 14) dX6_loudnessAt_13 rfl rfl ?_
  refine zc_V (n := 17) (As := [.ref _]) (ci := 11) (mc := 0) (ms := 0) dX6_loudnessAt_14 ok_X6_yardsTo ⟨ml_X6_48, im_X6_yardsTo, sl_X6_yardsTo⟩ rfl (by assumption) rfl (Nat.le_of_ble_eq_true rfl) (by simp) (by omega) (Nat.le_refl _) (Nat.le_refl _) rfl rfl (m_yardsTo (by assumption) (by assumption)) ?_
  refine zs_isub (n := 18) dX6_loudnessAt_17 rfl ?_
  refine zs_ireturn dX6_loudnessAt_18 ⟨_, rfl, rfl⟩ ?_
  exact hQ
theorem m_P_openDay {p : Nat} (hK : mK M p = 21) : zD Z l 0 mth_X6_openDay [.ref p] M 0 0 none (sR (sI (sI M p 357 0) p 358 600) p 359 none) := by
  intro Q hQ
  show zX Z l 0 mth_X6_openDay 0 [(0, .ref p)] [] M 0 0 Q
  refine zs_aload_n (n := 1) dX6_openDay_0 rfl rfl ?_
  refine zs_iconst (v := 0) (n := 2) dX6_openDay_1 (by decide) rfl ?_
  refine zs_puti (n := 5) dX6_openDay_2 pf_X6_openDay_52 (by assumption) ⟨rfl, rfl⟩ rfl ?_
  refine zs_aload_n (n := 6) dX6_openDay_5 rfl rfl ?_
  refine zs_sipush (v := 600) (n := 9) dX6_openDay_6 (by decide) rfl ?_
  refine zs_puti (n := 12) dX6_openDay_9 pf_X6_openDay_55 (by assumption) ⟨rfl, rfl⟩ rfl ?_
  refine zs_aload_n (n := 13) dX6_openDay_12 rfl rfl ?_
  refine zs_null (n := 14) dX6_openDay_13 rfl ?_
  refine zs_putN (n := 17) dX6_openDay_14 pf_X6_openDay_58 (by assumption) ⟨rfl, rfl⟩ rfl ?_
  refine zs_return dX6_openDay_17 rfl ?_
  exact hQ
end ZLEAF
