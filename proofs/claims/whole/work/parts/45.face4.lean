/-! FACE: lots, soundness, the next day, sums -/
section ZFACE4
variable {Z : zPar} {l : Launch} {Λ : Nat → Nat} {S : zSt} {M : zMem}
theorem f_drawLots {F zn : Nat} (hR : zRp Z Λ S M) (h3 : sc S 3 = 1) (hF : F + 1 = 2 ^ sc S 1) (hz : sV S 4 325 = nI zn) (hz2 : zn < 2 ^ 31) : zG Z l 3 mth_X11_drawLots [.ref (Λ 1)] M 0 0 (some (.int (sV (fDraw S (sc S 1) F zn) 4 323))) (zRp Z Λ (fDraw S (sc S 1) F zn)) := by
  intro Q hQ
  have hn : sc S 1 ≤ 8 := hR.bnd.1.2.1
  show zX Z l 3 mth_X11_drawLots 0 [(0, .ref (Λ 1))] [] M 0 0 Q
  refine zs_aload_n (n := 1) dX11_drawLots_0 rfl rfl ?_
  refine zs_getr (b := (Λ 4)) (n := 4) dX11_drawLots_1 gf_X11_26 (hR.kd (lvC h3 (by omega))) (hR.pt (lvC h3 (by omega)) rfl (by decide)) rfl ?_
  refine zs_aload_n (n := 5) dX11_drawLots_4 rfl rfl ?_
  refine zs_getr (b := (Λ 3)) (n := 8) dX11_drawLots_5 gf_X11_19 (hR.kd (lvC h3 (by omega))) (hR.pt (lvC h3 (by omega)) rfl (by decide)) rfl ?_
  refine zs_aload_n (n := 9) dX11_drawLots_8 rfl rfl ?_
  refine zs_getr (b := (Λ 2)) (n := 12) dX11_drawLots_9 gf_X11_10 (hR.kd (lvC h3 (by omega))) (hR.pt (lvC h3 (by omega)) rfl (by decide)) rfl ?_
  refine zs_getr (b := (Λ 17)) (n := 15) dX11_drawLots_12 gf_X11_115 (hR.kd (lvC h3 (by omega))) (hR.pt (lvC h3 (by omega)) rfl (by decide)) rfl ?_
  refine zc_size (c := sc S 1) (n := 18) dX11_drawLots_15 ml_X11_79 (hR.lA h3) (by simp) (by omega) rfl ?_
  refine zg_V (n := 21) (As := [.ref (Λ 3), .int (nI (sc S 1))]) (ci := 10) (mc := 0) (ms := 0) dX11_drawLots_18 ok_X5_draw ⟨ml_X11_169, im_X5_draw, sl_X5_draw⟩ rfl (hR.kd (lvC h3 (by omega))) rfl (Nat.le_of_ble_eq_true rfl) (by simp) (by omega) (Nat.le_refl _) (Nat.le_refl _) rfl rfl (c_draw hR h3 hn hF hz hz2) ?_
  intro M hR
  have h3 : sc (fDraw S (sc S 1) F zn) 3 = 1 := (congrFun (fDrawn_sc (S := fCopyA S) (sc S 1)) 3).trans h3
  refine zs_aload_n (n := 22) dX11_drawLots_21 rfl rfl ?_
  refine zs_getr (b := (Λ 4)) (n := 25) dX11_drawLots_22 gf_X11_26 (hR.kd (lvC h3 (by omega))) (hR.pt (lvC h3 (by omega)) rfl (by decide)) rfl ?_
  refine zs_getv (x := (sV (fDraw S (sc S 1) F zn) 4 323)) (n := 28) dX11_drawLots_25 gf_X11_173 (hR.kd (lvC h3 (by omega))) (hR.iv (lvC h3 (by omega)) (by decide) (by decide)) rfl ?_
  refine zs_ireturn dX11_drawLots_28 ⟨_, rfl, rfl⟩ ?_
  exact hQ _ hR
theorem f_isSound {n : Nat} (hR : zRp Z Λ S M) (h3 : sc S 3 = 1) (hm : fMoney S (sc S 1) = sV S 7 231 - sV S 7 232) (hO : ∀ i, i < sc S 0 → fBefore S i &&& fActs S i (sc S (10 + i)) = 0) (hln : n ≤ 8) (hls : sV S 4 323 = nI n) (hAl : fAllow S n) (hA : ∀ i, i < sc S 0 → fApart S i) : zD Z l 5 mth_X11_isSound [.ref (Λ 1)] M 0 0 (some (.int 1)) M := by
  intro Q hQ
  have hb0 := hR.bnd.1.1
  have hb1 := hR.bnd.1.2.1
  have hb2 := hR.bnd.1.2.2.1
  show zX Z l 5 mth_X11_isSound 0 [(0, .ref (Λ 1))] [] M 0 0 Q
  refine zs_aload_n (n := 1) dX11_isSound_0 rfl rfl ?_
  refine zs_getr (b := (Λ 2)) (n := 4) dX11_isSound_1 gf_X11_10 (hR.kd (lvC h3 (by omega))) (hR.pt (lvC h3 (by omega)) rfl (by decide)) rfl ?_
  refine zc_V (n := 7) (As := []) (ci := 12) (mc := 0) (ms := 0) dX11_isSound_4 ok_X7_sumMoney ⟨ml_X11_339, im_X7_sumMoney, sl_X7_sumMoney⟩ rfl (hR.kd (lvC h3 (by omega))) rfl (Nat.le_of_ble_eq_true rfl) (by simp) (by omega) (Nat.le_refl _) (Nat.le_refl _) rfl rfl (c_sumMoney hR h3) ?_
  refine zs_aload_n (n := 8) dX11_isSound_7 rfl rfl ?_
  refine zs_getr (b := (Λ 7)) (n := 11) dX11_isSound_8 gf_X11_49 (hR.kd (lvC h3 (by omega))) (hR.pt (lvC h3 (by omega)) rfl (by decide)) rfl ?_
  refine zs_getv (x := (sV S 7 231)) (n := 14) dX11_isSound_11 gf_X11_342 (hR.kd (lvC h3 (by omega))) (hR.iv (lvC h3 (by omega)) (by decide) (by decide)) rfl ?_
  refine zs_aload_n (n := 15) dX11_isSound_14 rfl rfl ?_
  refine zs_getr (b := (Λ 7)) (n := 18) dX11_isSound_15 gf_X11_49 (hR.kd (lvC h3 (by omega))) (hR.pt (lvC h3 (by omega)) rfl (by decide)) rfl ?_
  refine zs_getv (x := (sV S 7 232)) (n := 21) dX11_isSound_18 gf_X11_301 (hR.kd (lvC h3 (by omega))) (hR.iv (lvC h3 (by omega)) (by decide) (by decide)) rfl ?_
  refine zs_isub (n := 22) dX11_isSound_21 rfl ?_
  refine zs_icmp_ne (tgt := 59) (n := 25) dX11_isSound_22 (by decide) rfl (fun h => absurd hm h) (fun _ => ?_)
  refine zs_aload_n (n := 26) dX11_isSound_25 rfl rfl ?_
  refine zs_getr (b := (Λ 2)) (n := 29) dX11_isSound_26 gf_X11_10 (hR.kd (lvC h3 (by omega))) (hR.pt (lvC h3 (by omega)) rfl (by decide)) rfl ?_
  refine zc_V (n := 32) (As := []) (ci := 12) (mc := 0) (ms := 0) dX11_isSound_29 ok_X7_hasActsOnOnePitch ⟨ml_X11_345, im_X7_hasActsOnOnePitch, sl_X7_hasActsOnOnePitch⟩ rfl (hR.kd (lvC h3 (by omega))) rfl (Nat.le_of_ble_eq_true rfl) (by simp) (by omega) (Nat.le_refl _) (Nat.le_refl _) rfl rfl (c_hasActsOnOnePitch hR h3 hO) ?_
  refine zs_if_eq (tgt := 59) (n := 35) dX11_isSound_32 (by decide) rfl (fun h => absurd h (by decide)) (fun _ => ?_)
  refine zs_aload_n (n := 36) dX11_isSound_35 rfl rfl ?_
  refine zs_getr (b := (Λ 4)) (n := 39) dX11_isSound_36 gf_X11_26 (hR.kd (lvC h3 (by omega))) (hR.pt (lvC h3 (by omega)) rfl (by decide)) rfl ?_
  refine zc_V (n := 42) (As := []) (ci := 10) (mc := 0) (ms := 0) dX11_isSound_39 ok_X5_isAllowed ⟨ml_X11_349, im_X5_isAllowed, sl_X5_isAllowed⟩ rfl (hR.kd (lvC h3 (by omega))) rfl (Nat.le_of_ble_eq_true rfl) (by simp) (by omega) (Nat.le_refl _) (Nat.le_refl _) rfl rfl (c_isAllowed hR h3 hln hls hAl) ?_
  refine zs_if_eq (tgt := 59) (n := 45) dX11_isSound_42 (by decide) rfl (fun h => absurd h (by decide)) (fun _ => ?_)
  refine zs_aload_n (n := 46) dX11_isSound_45 rfl rfl ?_
  refine zs_getr (b := (Λ 2)) (n := 49) dX11_isSound_46 gf_X11_10 (hR.kd (lvC h3 (by omega))) (hR.pt (lvC h3 (by omega)) rfl (by decide)) rfl ?_
  refine zc_V (n := 52) (As := []) (ci := 12) (mc := 0) (ms := 0) dX11_isSound_49 ok_X7_hasTurnsApart ⟨ml_X11_352, im_X7_hasTurnsApart, sl_X7_hasTurnsApart⟩ rfl (hR.kd (lvC h3 (by omega))) rfl (Nat.le_of_ble_eq_true rfl) (by simp) (by omega) (Nat.le_refl _) (Nat.le_refl _) rfl rfl (c_ShasTurnsApart hR h3 hA) ?_
  refine zs_if_eq (tgt := 59) (n := 55) dX11_isSound_52 (by decide) rfl (fun h => absurd h (by decide)) (fun _ => ?_)
  refine zs_iconst (v := 1) (n := 56) dX11_isSound_55 (by decide) rfl ?_
  refine zs_goto (tgt := 60) dX11_isSound_56 (by decide) ?_
  refine zs_ireturn dX11_isSound_60 ⟨_, rfl, rfl⟩ ?_
  exact hQ
def fNextDay (S : zSt) : zSt := (cset (sc (sc (wC (fWrite S (sV S 7 230)) (fClr (sc (fWrite S (sV S 7 230)) 0) (sc (fWrite S (sV S 7 230))))), u2 (u2 (sV (wC (fWrite S (sV S 7 230)) (fClr (sc (fWrite S (sV S 7 230)) 0) (sc (fWrite S (sV S 7 230)))))) 5 480 0) 5 481 (-1), sW (wC (fWrite S (sV S 7 230)) (fClr (sc (fWrite S (sV S 7 230)) 0) (sc (fWrite S (sV S 7 230))))), sT (wC (fWrite S (sV S 7 230)) (fClr (sc (fWrite S (sV S 7 230)) 0) (sc (fWrite S (sV S 7 230))))), sP (wC (fWrite S (sV S 7 230)) (fClr (sc (fWrite S (sV S 7 230)) 0) (sc (fWrite S (sV S 7 230))))))) 2 0, u2 (u2 (u2 (sV (sc (wC (fWrite S (sV S 7 230)) (fClr (sc (fWrite S (sV S 7 230)) 0) (sc (fWrite S (sV S 7 230))))), u2 (u2 (sV (wC (fWrite S (sV S 7 230)) (fClr (sc (fWrite S (sV S 7 230)) 0) (sc (fWrite S (sV S 7 230)))))) 5 480 0) 5 481 (-1), sW (wC (fWrite S (sV S 7 230)) (fClr (sc (fWrite S (sV S 7 230)) 0) (sc (fWrite S (sV S 7 230))))), sT (wC (fWrite S (sV S 7 230)) (fClr (sc (fWrite S (sV S 7 230)) 0) (sc (fWrite S (sV S 7 230))))), sP (wC (fWrite S (sV S 7 230)) (fClr (sc (fWrite S (sV S 7 230)) 0) (sc (fWrite S (sV S 7 230))))))) 7 228 0) 7 230 0) 7 229 (sV (sc (wC (fWrite S (sV S 7 230)) (fClr (sc (fWrite S (sV S 7 230)) 0) (sc (fWrite S (sV S 7 230))))), u2 (u2 (sV (wC (fWrite S (sV S 7 230)) (fClr (sc (fWrite S (sV S 7 230)) 0) (sc (fWrite S (sV S 7 230)))))) 5 480 0) 5 481 (-1), sW (wC (fWrite S (sV S 7 230)) (fClr (sc (fWrite S (sV S 7 230)) 0) (sc (fWrite S (sV S 7 230))))), sT (wC (fWrite S (sV S 7 230)) (fClr (sc (fWrite S (sV S 7 230)) 0) (sc (fWrite S (sV S 7 230))))), sP (wC (fWrite S (sV S 7 230)) (fClr (sc (fWrite S (sV S 7 230)) 0) (sc (fWrite S (sV S 7 230)))))) 7 229 + 1), sW (sc (wC (fWrite S (sV S 7 230)) (fClr (sc (fWrite S (sV S 7 230)) 0) (sc (fWrite S (sV S 7 230))))), u2 (u2 (sV (wC (fWrite S (sV S 7 230)) (fClr (sc (fWrite S (sV S 7 230)) 0) (sc (fWrite S (sV S 7 230)))))) 5 480 0) 5 481 (-1), sW (wC (fWrite S (sV S 7 230)) (fClr (sc (fWrite S (sV S 7 230)) 0) (sc (fWrite S (sV S 7 230))))), sT (wC (fWrite S (sV S 7 230)) (fClr (sc (fWrite S (sV S 7 230)) 0) (sc (fWrite S (sV S 7 230))))), sP (wC (fWrite S (sV S 7 230)) (fClr (sc (fWrite S (sV S 7 230)) 0) (sc (fWrite S (sV S 7 230)))))), sT (sc (wC (fWrite S (sV S 7 230)) (fClr (sc (fWrite S (sV S 7 230)) 0) (sc (fWrite S (sV S 7 230))))), u2 (u2 (sV (wC (fWrite S (sV S 7 230)) (fClr (sc (fWrite S (sV S 7 230)) 0) (sc (fWrite S (sV S 7 230)))))) 5 480 0) 5 481 (-1), sW (wC (fWrite S (sV S 7 230)) (fClr (sc (fWrite S (sV S 7 230)) 0) (sc (fWrite S (sV S 7 230))))), sT (wC (fWrite S (sV S 7 230)) (fClr (sc (fWrite S (sV S 7 230)) 0) (sc (fWrite S (sV S 7 230))))), sP (wC (fWrite S (sV S 7 230)) (fClr (sc (fWrite S (sV S 7 230)) 0) (sc (fWrite S (sV S 7 230)))))), sP (sc (wC (fWrite S (sV S 7 230)) (fClr (sc (fWrite S (sV S 7 230)) 0) (sc (fWrite S (sV S 7 230))))), u2 (u2 (sV (wC (fWrite S (sV S 7 230)) (fClr (sc (fWrite S (sV S 7 230)) 0) (sc (fWrite S (sV S 7 230)))))) 5 480 0) 5 481 (-1), sW (wC (fWrite S (sV S 7 230)) (fClr (sc (fWrite S (sV S 7 230)) 0) (sc (fWrite S (sV S 7 230))))), sT (wC (fWrite S (sV S 7 230)) (fClr (sc (fWrite S (sV S 7 230)) 0) (sc (fWrite S (sV S 7 230))))), sP (wC (fWrite S (sV S 7 230)) (fClr (sc (fWrite S (sV S 7 230)) 0) (sc (fWrite S (sV S 7 230)))))))
theorem f_nextDay  (hR : zRp Z Λ S M) (h3 : sc S 3 = 1) (hp : ¬ sV S 7 228 = 0) : zG Z l 5 mth_X11_nextDay [.ref (Λ 1)] M 0 0 (some (.int (sV (fNextDay S) 7 229))) (zRp Z Λ (fNextDay S)) := by
  intro Q hQ
  have hb0 := hR.bnd.1.1
  have hb1 := hR.bnd.1.2.1
  have hb2 := hR.bnd.1.2.2.1
  show zX Z l 5 mth_X11_nextDay 0 [(0, .ref (Λ 1))] [] M 0 0 Q
  refine zs_aload_n (n := 1) dX11_nextDay_0 rfl rfl ?_
  refine zc_V (n := 4) (As := []) (ci := 16) (mc := 0) (ms := 0) dX11_nextDay_1 ok_X11_requirePlayed ⟨ml_X11_275, im_X11_requirePlayed, sl_X11_requirePlayed⟩ rfl (hR.kd (lvC h3 (by omega))) rfl (Nat.le_of_ble_eq_true rfl) (by simp) (by omega) (Nat.le_refl _) (Nat.le_refl _) rfl rfl (c_requirePlayed hR h3 hp) ?_
  refine zs_aload_n (n := 5) dX11_nextDay_4 rfl rfl ?_
  refine zs_getr (b := (Λ 8)) (n := 8) dX11_nextDay_5 gf_X11_56 (hR.kd (lvC h3 (by omega))) (hR.pt (lvC h3 (by omega)) rfl (by decide)) rfl ?_
  refine zs_aload_n (n := 9) dX11_nextDay_8 rfl rfl ?_
  refine zs_getr (b := (Λ 7)) (n := 12) dX11_nextDay_9 gf_X11_49 (hR.kd (lvC h3 (by omega))) (hR.pt (lvC h3 (by omega)) rfl (by decide)) rfl ?_
  refine zs_getv (x := (sV S 7 230)) (n := 15) dX11_nextDay_12 gf_X11_268 (hR.kd (lvC h3 (by omega))) (hR.iv (lvC h3 (by omega)) (by decide) (by decide)) rfl ?_
  refine zg_V (n := 18) (As := [.int (sV S 7 230)]) (ci := 8) (mc := 0) (ms := 0) dX11_nextDay_15 ok_X3_write ⟨ml_X11_304, im_X3_write, sl_X3_write⟩ rfl (hR.kd (lvC h3 (by omega))) rfl (Nat.le_of_ble_eq_true rfl) (by simp) (by omega) (Nat.le_refl _) (Nat.le_refl _) rfl rfl (c_write hR h3) ?_
  intro M hR
  refine zs_aload_n (n := 19) dX11_nextDay_18 rfl rfl ?_
  refine zs_getr (b := (Λ 2)) (n := 22) dX11_nextDay_19 gf_X11_10 (hR.kd (lvC h3 (by omega))) (hR.pt (lvC h3 (by omega)) rfl (by decide)) rfl ?_
  refine zg_V (n := 25) (As := []) (ci := 12) (mc := 0) (ms := 0) dX11_nextDay_22 ok_X7_clearTurns ⟨ml_X11_205, im_X7_clearTurns, sl_X7_clearTurns⟩ rfl (hR.kd (lvC h3 (by omega))) rfl (Nat.le_of_ble_eq_true rfl) (by simp) (by omega) (Nat.le_refl _) (Nat.le_refl _) rfl rfl (c_clearTurns hR h3) ?_
  intro M hR
  have h3 : sc (wC (fWrite S (sV S 7 230)) (fClr (sc (fWrite S (sV S 7 230)) 0) (sc (fWrite S (sV S 7 230))))) 3 = 1 := (fClr_lo (Or.inl (by decide)) _ (by show sc S 0 ≤ 100; omega)).trans h3
  refine zs_aload_n (n := 26) dX11_nextDay_25 rfl rfl ?_
  refine zs_getr (b := (Λ 5)) (n := 29) dX11_nextDay_26 gf_X11_33 (hR.kd (lvC h3 (by omega))) (hR.pt (lvC h3 (by omega)) rfl (by decide)) rfl ?_
  refine zg_V (n := 32) (As := []) (ci := 15) (mc := 0) (ms := 0) dX11_nextDay_29 ok_X10_endRain ⟨ml_X11_307, im_X10_endRain, sl_X10_endRain⟩ rfl (hR.kd (lvC h3 (by omega))) rfl (Nat.le_of_ble_eq_true rfl) (by simp) (by omega) (Nat.le_refl _) (Nat.le_refl _) rfl rfl (c_endRain hR h3) ?_
  intro M hR
  refine zs_aload_n (n := 33) dX11_nextDay_32 rfl rfl ?_
  refine zs_getr (b := (Λ 7)) (n := 36) dX11_nextDay_33 gf_X11_49 (hR.kd (lvC h3 (by omega))) (hR.pt (lvC h3 (by omega)) rfl (by decide)) rfl ?_
  refine zg_V (n := 39) (As := []) (ci := 7) (mc := 0) (ms := 0) dX11_nextDay_36 ok_X2_begin ⟨ml_X11_310, im_X2_begin, sl_X2_begin⟩ rfl (hR.kd (lvC h3 (by omega))) rfl (Nat.le_of_ble_eq_true rfl) (by simp) (by omega) (Nat.le_refl _) (Nat.le_refl _) rfl rfl (c_begin hR h3) ?_
  intro M hR
  refine zs_aload_n (n := 40) dX11_nextDay_39 rfl rfl ?_
  refine zs_getr (b := (Λ 7)) (n := 43) dX11_nextDay_40 gf_X11_49 (hR.kd (lvC h3 (by omega))) (hR.pt (lvC h3 (by omega)) rfl (by decide)) rfl ?_
  refine zs_getv (x := (sV (cset (sc (sc (wC (fWrite S (sV S 7 230)) (fClr (sc (fWrite S (sV S 7 230)) 0) (sc (fWrite S (sV S 7 230))))), u2 (u2 (sV (wC (fWrite S (sV S 7 230)) (fClr (sc (fWrite S (sV S 7 230)) 0) (sc (fWrite S (sV S 7 230)))))) 5 480 0) 5 481 (-1), sW (wC (fWrite S (sV S 7 230)) (fClr (sc (fWrite S (sV S 7 230)) 0) (sc (fWrite S (sV S 7 230))))), sT (wC (fWrite S (sV S 7 230)) (fClr (sc (fWrite S (sV S 7 230)) 0) (sc (fWrite S (sV S 7 230))))), sP (wC (fWrite S (sV S 7 230)) (fClr (sc (fWrite S (sV S 7 230)) 0) (sc (fWrite S (sV S 7 230))))))) 2 0, u2 (u2 (u2 (sV (sc (wC (fWrite S (sV S 7 230)) (fClr (sc (fWrite S (sV S 7 230)) 0) (sc (fWrite S (sV S 7 230))))), u2 (u2 (sV (wC (fWrite S (sV S 7 230)) (fClr (sc (fWrite S (sV S 7 230)) 0) (sc (fWrite S (sV S 7 230)))))) 5 480 0) 5 481 (-1), sW (wC (fWrite S (sV S 7 230)) (fClr (sc (fWrite S (sV S 7 230)) 0) (sc (fWrite S (sV S 7 230))))), sT (wC (fWrite S (sV S 7 230)) (fClr (sc (fWrite S (sV S 7 230)) 0) (sc (fWrite S (sV S 7 230))))), sP (wC (fWrite S (sV S 7 230)) (fClr (sc (fWrite S (sV S 7 230)) 0) (sc (fWrite S (sV S 7 230))))))) 7 228 0) 7 230 0) 7 229 (sV (sc (wC (fWrite S (sV S 7 230)) (fClr (sc (fWrite S (sV S 7 230)) 0) (sc (fWrite S (sV S 7 230))))), u2 (u2 (sV (wC (fWrite S (sV S 7 230)) (fClr (sc (fWrite S (sV S 7 230)) 0) (sc (fWrite S (sV S 7 230)))))) 5 480 0) 5 481 (-1), sW (wC (fWrite S (sV S 7 230)) (fClr (sc (fWrite S (sV S 7 230)) 0) (sc (fWrite S (sV S 7 230))))), sT (wC (fWrite S (sV S 7 230)) (fClr (sc (fWrite S (sV S 7 230)) 0) (sc (fWrite S (sV S 7 230))))), sP (wC (fWrite S (sV S 7 230)) (fClr (sc (fWrite S (sV S 7 230)) 0) (sc (fWrite S (sV S 7 230)))))) 7 229 + 1), sW (sc (wC (fWrite S (sV S 7 230)) (fClr (sc (fWrite S (sV S 7 230)) 0) (sc (fWrite S (sV S 7 230))))), u2 (u2 (sV (wC (fWrite S (sV S 7 230)) (fClr (sc (fWrite S (sV S 7 230)) 0) (sc (fWrite S (sV S 7 230)))))) 5 480 0) 5 481 (-1), sW (wC (fWrite S (sV S 7 230)) (fClr (sc (fWrite S (sV S 7 230)) 0) (sc (fWrite S (sV S 7 230))))), sT (wC (fWrite S (sV S 7 230)) (fClr (sc (fWrite S (sV S 7 230)) 0) (sc (fWrite S (sV S 7 230))))), sP (wC (fWrite S (sV S 7 230)) (fClr (sc (fWrite S (sV S 7 230)) 0) (sc (fWrite S (sV S 7 230)))))), sT (sc (wC (fWrite S (sV S 7 230)) (fClr (sc (fWrite S (sV S 7 230)) 0) (sc (fWrite S (sV S 7 230))))), u2 (u2 (sV (wC (fWrite S (sV S 7 230)) (fClr (sc (fWrite S (sV S 7 230)) 0) (sc (fWrite S (sV S 7 230)))))) 5 480 0) 5 481 (-1), sW (wC (fWrite S (sV S 7 230)) (fClr (sc (fWrite S (sV S 7 230)) 0) (sc (fWrite S (sV S 7 230))))), sT (wC (fWrite S (sV S 7 230)) (fClr (sc (fWrite S (sV S 7 230)) 0) (sc (fWrite S (sV S 7 230))))), sP (wC (fWrite S (sV S 7 230)) (fClr (sc (fWrite S (sV S 7 230)) 0) (sc (fWrite S (sV S 7 230)))))), sP (sc (wC (fWrite S (sV S 7 230)) (fClr (sc (fWrite S (sV S 7 230)) 0) (sc (fWrite S (sV S 7 230))))), u2 (u2 (sV (wC (fWrite S (sV S 7 230)) (fClr (sc (fWrite S (sV S 7 230)) 0) (sc (fWrite S (sV S 7 230)))))) 5 480 0) 5 481 (-1), sW (wC (fWrite S (sV S 7 230)) (fClr (sc (fWrite S (sV S 7 230)) 0) (sc (fWrite S (sV S 7 230))))), sT (wC (fWrite S (sV S 7 230)) (fClr (sc (fWrite S (sV S 7 230)) 0) (sc (fWrite S (sV S 7 230))))), sP (wC (fWrite S (sV S 7 230)) (fClr (sc (fWrite S (sV S 7 230)) 0) (sc (fWrite S (sV S 7 230))))))) 7 229)) (n := 46) dX11_nextDay_43 gf_X11_313 (hR.kd (lvC h3 (by omega))) (hR.iv (lvC h3 (by omega)) (by decide) (by decide)) rfl ?_
  refine zs_ireturn dX11_nextDay_46 ⟨_, rfl, rfl⟩ ?_
  exact hQ _ hR
def fSumA (S : zSt) (n : Nat) : Int64 := zit (fun a s => 31 * (31 * s + (sV S (140 + a) 167).toInt64) + (sV S (140 + a) 165).toInt64) n 7
def fSumP (S : zSt) (n : Nat) (x : Int64) : Int64 := zit (fun i s => 31 * (31 * s + (nI (sc S (10 + i))).toInt64) + (sV S (100 + i) 352).toInt64) n x
theorem f_checksum  (hR : zRp Z Λ S M) (h3 : sc S 3 = 1) : zD Z l 3 mth_X11_checksum [.ref (Λ 1)] M 0 0 (some (.long (31 * (31 * fSumP S (sc S 0) (fSumA S (sc S 1)) + (sV S 7 232).toInt64) + (sV S 4 325).toInt64))) M := by
  intro Q hQ
  have hb0 := hR.bnd.1.1
  have hb1 := hR.bnd.1.2.1
  have hb2 := hR.bnd.1.2.2.1
  show zX Z l 3 mth_X11_checksum 0 [(0, .ref (Λ 1))] [] M 0 0 Q
  refine zs_ldc2 (n := 3) dX11_checksum_0 ct_X11_319 rfl ?_
  refine zs_lstore_n (n := 4) dX11_checksum_3 (by decide) rfl ?_
  refine zs_iconst (v := 0) (n := 5) dX11_checksum_4 (by decide) rfl ?_
  refine zs_istore_n (n := 6) dX11_checksum_5 (by decide) rfl ?_
  refine zX.sub (L' := [(0, .ref (Λ 1)), (1, .long (fSumA S 0)), (3, .int (nI 0))]) ⟨rfl, rfl, rfl, trivial⟩ ?_
  refine zloop (n := sc S 1) (X := fun j => zX Z l 3 mth_X11_checksum 6 [(0, .ref (Λ 1)), (1, .long (fSumA S j)), (3, .int (nI j))] [] M 0 0 Q) (fun j hj ih => ?_) ?_ 0 (Nat.zero_le _)
  · refine zs_iload_n (n := 7) dX11_checksum_6 rfl rfl ?_
    refine zs_aload_n (n := 8) dX11_checksum_7 rfl rfl ?_
    refine zs_getr (b := (Λ 2)) (n := 11) dX11_checksum_8 gf_X11_10 (hR.kd (lvC h3 (by omega))) (hR.pt (lvC h3 (by omega)) rfl (by decide)) rfl ?_
    refine zs_getr (b := (Λ 17)) (n := 14) dX11_checksum_11 gf_X11_115 (hR.kd (lvC h3 (by omega))) (hR.pt (lvC h3 (by omega)) rfl (by decide)) rfl ?_
    refine zc_size (c := sc S 1) (n := 17) dX11_checksum_14 ml_X11_79 (hR.lA h3) (by simp) (by omega) rfl ?_
    refine zs_icmp_ge (tgt := 68) (n := 20) dX11_checksum_17 (by decide) rfl (fun h => absurd h (nI_ge hj (by omega))) (fun _ => ?_)
    refine zs_aload_n (n := 21) dX11_checksum_20 rfl rfl ?_
    refine zs_getr (b := (Λ 2)) (n := 24) dX11_checksum_21 gf_X11_10 (hR.kd (lvC h3 (by omega))) (hR.pt (lvC h3 (by omega)) rfl (by decide)) rfl ?_
    refine zs_getr (b := (Λ 17)) (n := 27) dX11_checksum_24 gf_X11_115 (hR.kd (lvC h3 (by omega))) (hR.pt (lvC h3 (by omega)) rfl (by decide)) rfl ?_
    refine zs_iload_n (n := 28) dX11_checksum_27 rfl rfl ?_
    refine zc_getb (c := sc S 1) (b := (Λ (140 + j))) (n := 31) dX11_checksum_28 ml_X11_103 (hR.lA h3) hj rfl (by simp) (by omega) rfl ?_
    refine zs_castS (ci := 5) (n := 34) dX11_checksum_31 rfl cl_X11_120 (hR.kA hj) rfl ?_
    refine zs_astore (n := 36) dX11_checksum_34 (by decide) rfl ?_
    refine zs_ldc2 (n := 39) dX11_checksum_36 ct_X11_321 rfl ?_
    refine zs_lload_n (n := 40) dX11_checksum_39 rfl rfl ?_
    refine zs_lmul (n := 41) dX11_checksum_40 rfl ?_
    refine zs_aload (n := 43) dX11_checksum_41 rfl rfl ?_
    refine zs_getv (x := (sV S (140 + j) 167)) (n := 46) dX11_checksum_43 gf_X11_298 (hR.kA hj) (hR.iv (lvA hj) (by decide) (by decide)) rfl ?_
    refine zs_i2l (n := 47) dX11_checksum_46 rfl ?_
    refine zs_ladd (n := 48) dX11_checksum_47 rfl ?_
    refine zs_lstore_n (n := 49) dX11_checksum_48 (by decide) rfl ?_
    refine zs_ldc2 (n := 52) dX11_checksum_49 ct_X11_321 rfl ?_
    refine zs_lload_n (n := 53) dX11_checksum_52 rfl rfl ?_
    refine zs_lmul (n := 54) dX11_checksum_53 rfl ?_
    refine zs_aload (n := 56) dX11_checksum_54 rfl rfl ?_
    refine zs_getv (x := (sV S (140 + j) 165)) (n := 59) dX11_checksum_56 gf_X11_128 (hR.kA hj) (hR.iv (lvA hj) (by decide) (by decide)) rfl ?_
    refine zs_i2l (n := 60) dX11_checksum_59 rfl ?_
    refine zs_ladd (n := 61) dX11_checksum_60 rfl ?_
    refine zs_lstore_n (n := 62) dX11_checksum_61 (by decide) rfl ?_
    refine zs_iinc (v := (nI (j + 1))) (n := 65) dX11_checksum_62 rfl (nI_1 _) (by decide) rfl ?_
    refine zs_goto (tgt := 6) dX11_checksum_65 (by decide) ?_
    refine zX.sub (L' := [(0, .ref (Λ 1)), (1, .long (fSumA S (j + 1))), (3, .int (nI (j + 1)))]) ⟨rfl, rfl, rfl, trivial⟩ ?_
    exact ih
  · refine zs_iload_n (n := 7) dX11_checksum_6 rfl rfl ?_
    refine zs_aload_n (n := 8) dX11_checksum_7 rfl rfl ?_
    refine zs_getr (b := (Λ 2)) (n := 11) dX11_checksum_8 gf_X11_10 (hR.kd (lvC h3 (by omega))) (hR.pt (lvC h3 (by omega)) rfl (by decide)) rfl ?_
    refine zs_getr (b := (Λ 17)) (n := 14) dX11_checksum_11 gf_X11_115 (hR.kd (lvC h3 (by omega))) (hR.pt (lvC h3 (by omega)) rfl (by decide)) rfl ?_
    refine zc_size (c := sc S 1) (n := 17) dX11_checksum_14 ml_X11_79 (hR.lA h3) (by simp) (by omega) rfl ?_
    refine zs_icmp_ge (tgt := 68) (n := 20) dX11_checksum_17 (by decide) rfl (fun _ => ?_) (fun h => absurd (nI_le (Nat.le_refl _) (by omega)) h)
    refine zs_iconst (v := 0) (n := 69) dX11_checksum_68 (by decide) rfl ?_
    refine zs_istore_n (n := 70) dX11_checksum_69 (by decide) rfl ?_
    refine zX.sub (L' := [(0, .ref (Λ 1)), (1, .long (fSumP S 0 (fSumA S (sc S 1)))), (3, .int (nI 0))]) ⟨rfl, rfl, rfl, trivial⟩ ?_
    refine zloop (n := sc S 0) (X := fun j => zX Z l 3 mth_X11_checksum 70 [(0, .ref (Λ 1)), (1, .long (fSumP S j (fSumA S (sc S 1)))), (3, .int (nI j))] [] M 0 0 Q) (fun j hj ih => ?_) ?_ 0 (Nat.zero_le _)
    · refine zs_iload_n (n := 71) dX11_checksum_70 rfl rfl ?_
      refine zs_aload_n (n := 72) dX11_checksum_71 rfl rfl ?_
      refine zs_getr (b := (Λ 2)) (n := 75) dX11_checksum_72 gf_X11_10 (hR.kd (lvC h3 (by omega))) (hR.pt (lvC h3 (by omega)) rfl (by decide)) rfl ?_
      refine zs_getr (b := (Λ 15)) (n := 78) dX11_checksum_75 gf_X11_75 (hR.kd (lvC h3 (by omega))) (hR.pt (lvC h3 (by omega)) rfl (by decide)) rfl ?_
      refine zc_size (c := sc S 0) (n := 81) dX11_checksum_78 ml_X11_79 (hR.lP h3) (by simp) (by omega) rfl ?_
      refine zs_icmp_ge (tgt := 135) (n := 84) dX11_checksum_81 (by decide) rfl (fun h => absurd h (nI_ge hj (by omega))) (fun _ => ?_)
      refine zs_aload_n (n := 85) dX11_checksum_84 rfl rfl ?_
      refine zs_getr (b := (Λ 2)) (n := 88) dX11_checksum_85 gf_X11_10 (hR.kd (lvC h3 (by omega))) (hR.pt (lvC h3 (by omega)) rfl (by decide)) rfl ?_
      refine zs_getr (b := (Λ 15)) (n := 91) dX11_checksum_88 gf_X11_75 (hR.kd (lvC h3 (by omega))) (hR.pt (lvC h3 (by omega)) rfl (by decide)) rfl ?_
      refine zs_iload_n (n := 92) dX11_checksum_91 rfl rfl ?_
      refine zc_getb (c := sc S 0) (b := (Λ (100 + j))) (n := 95) dX11_checksum_92 ml_X11_103 (hR.lP h3) hj rfl (by simp) (by omega) rfl ?_
      refine zs_castS (ci := 11) (n := 98) dX11_checksum_95 rfl cl_X11_90 (hR.kP hj) rfl ?_
      refine zs_astore (n := 100) dX11_checksum_98 (by decide) rfl ?_
      refine zs_ldc2 (n := 103) dX11_checksum_100 ct_X11_321 rfl ?_
      refine zs_lload_n (n := 104) dX11_checksum_103 rfl rfl ?_
      refine zs_lmul (n := 105) dX11_checksum_104 rfl ?_
      refine zs_aload (n := 107) dX11_checksum_105 rfl rfl ?_
      refine zs_getr (b := (Λ (120 + j))) (n := 110) dX11_checksum_107 gf_X11_190 (hR.kP hj) (hR.pT hj) rfl ?_
      refine zc_size (c := sc S (10 + j)) (n := 113) dX11_checksum_110 ml_X11_79 (hR.lT hj) (by simp) (by omega) rfl ?_
      refine zs_i2l (n := 114) dX11_checksum_113 rfl ?_
      refine zs_ladd (n := 115) dX11_checksum_114 rfl ?_
      refine zs_lstore_n (n := 116) dX11_checksum_115 (by decide) rfl ?_
      refine zs_ldc2 (n := 119) dX11_checksum_116 ct_X11_321 rfl ?_
      refine zs_lload_n (n := 120) dX11_checksum_119 rfl rfl ?_
      refine zs_lmul (n := 121) dX11_checksum_120 rfl ?_
      refine zs_aload (n := 123) dX11_checksum_121 rfl rfl ?_
      refine zs_getv (x := (sV S (100 + j) 352)) (n := 126) dX11_checksum_123 gf_X11_323 (hR.kP hj) (hR.iv (lvP hj) (by decide) (by decide)) rfl ?_
      refine zs_i2l (n := 127) dX11_checksum_126 rfl ?_
      refine zs_ladd (n := 128) dX11_checksum_127 rfl ?_
      refine zs_lstore_n (n := 129) dX11_checksum_128 (by decide) rfl ?_
      refine zs_iinc (v := (nI (j + 1))) (n := 132) dX11_checksum_129 rfl (nI_1 _) (by decide) rfl ?_
      refine zs_goto (tgt := 70) dX11_checksum_132 (by decide) ?_
      refine zX.sub (L' := [(0, .ref (Λ 1)), (1, .long (fSumP S (j + 1) (fSumA S (sc S 1)))), (3, .int (nI (j + 1)))]) ⟨rfl, rfl, rfl, trivial⟩ ?_
      exact ih
    · refine zs_iload_n (n := 71) dX11_checksum_70 rfl rfl ?_
      refine zs_aload_n (n := 72) dX11_checksum_71 rfl rfl ?_
      refine zs_getr (b := (Λ 2)) (n := 75) dX11_checksum_72 gf_X11_10 (hR.kd (lvC h3 (by omega))) (hR.pt (lvC h3 (by omega)) rfl (by decide)) rfl ?_
      refine zs_getr (b := (Λ 15)) (n := 78) dX11_checksum_75 gf_X11_75 (hR.kd (lvC h3 (by omega))) (hR.pt (lvC h3 (by omega)) rfl (by decide)) rfl ?_
      refine zc_size (c := sc S 0) (n := 81) dX11_checksum_78 ml_X11_79 (hR.lP h3) (by simp) (by omega) rfl ?_
      refine zs_icmp_ge (tgt := 135) (n := 84) dX11_checksum_81 (by decide) rfl (fun _ => ?_) (fun h => absurd (nI_le (Nat.le_refl _) (by omega)) h)
      refine zs_ldc2 (n := 138) dX11_checksum_135 ct_X11_321 rfl ?_
      refine zs_lload_n (n := 139) dX11_checksum_138 rfl rfl ?_
      refine zs_lmul (n := 140) dX11_checksum_139 rfl ?_
      refine zs_aload_n (n := 141) dX11_checksum_140 rfl rfl ?_
      refine zs_getr (b := (Λ 7)) (n := 144) dX11_checksum_141 gf_X11_49 (hR.kd (lvC h3 (by omega))) (hR.pt (lvC h3 (by omega)) rfl (by decide)) rfl ?_
      refine zs_getv (x := (sV S 7 232)) (n := 147) dX11_checksum_144 gf_X11_301 (hR.kd (lvC h3 (by omega))) (hR.iv (lvC h3 (by omega)) (by decide) (by decide)) rfl ?_
      refine zs_i2l (n := 148) dX11_checksum_147 rfl ?_
      refine zs_ladd (n := 149) dX11_checksum_148 rfl ?_
      refine zs_lstore_n (n := 150) dX11_checksum_149 (by decide) rfl ?_
      refine zs_ldc2 (n := 153) dX11_checksum_150 ct_X11_321 rfl ?_
      refine zs_lload_n (n := 154) dX11_checksum_153 rfl rfl ?_
      refine zs_lmul (n := 155) dX11_checksum_154 rfl ?_
      refine zs_aload_n (n := 156) dX11_checksum_155 rfl rfl ?_
      refine zs_getr (b := (Λ 4)) (n := 159) dX11_checksum_156 gf_X11_26 (hR.kd (lvC h3 (by omega))) (hR.pt (lvC h3 (by omega)) rfl (by decide)) rfl ?_
      refine zs_getv (x := (sV S 4 325)) (n := 162) dX11_checksum_159 gf_X11_184 (hR.kd (lvC h3 (by omega))) (hR.iv (lvC h3 (by omega)) (by decide) (by decide)) rfl ?_
      refine zs_i2l (n := 163) dX11_checksum_162 rfl ?_
      refine zs_ladd (n := 164) dX11_checksum_163 rfl ?_
      refine zs_lreturn dX11_checksum_164 rfl ?_
      exact hQ
theorem f_goodShare  (hR : zRp Z Λ S M) (h3 : sc S 3 = 1) (hp : ¬ sV S 7 228 = 0) (h0 : 0 < fCountT S (sc S 0)) (hne : vf_n32 (FP.fdiv (FP.i2f (fGoodT S (sc S 0))) (FP.i2f (fCountT S (sc S 0))))) : zD Z l 4 mth_X11_goodShare [.ref (Λ 1)] M 0 0 (some (.float (FP.fdiv (FP.i2f (fGoodT S (sc S 0))) (FP.i2f (fCountT S (sc S 0)))))) M := by
  intro Q hQ
  have hb0 := hR.bnd.1.1
  have hb1 := hR.bnd.1.2.1
  have hb2 := hR.bnd.1.2.2.1
  show zX Z l 4 mth_X11_goodShare 0 [(0, .ref (Λ 1))] [] M 0 0 Q
  refine zs_aload_n (n := 1) dX11_goodShare_0 rfl rfl ?_
  refine zc_V (n := 4) (As := []) (ci := 16) (mc := 0) (ms := 0) dX11_goodShare_1 ok_X11_requirePlayed ⟨ml_X11_275, im_X11_requirePlayed, sl_X11_requirePlayed⟩ rfl (hR.kd (lvC h3 (by omega))) rfl (Nat.le_of_ble_eq_true rfl) (by simp) (by omega) (Nat.le_refl _) (Nat.le_refl _) rfl rfl (c_requirePlayed hR h3 hp) ?_
  refine zs_aload_n (n := 5) dX11_goodShare_4 rfl rfl ?_
  refine zs_getr (b := (Λ 2)) (n := 8) dX11_goodShare_5 gf_X11_10 (hR.kd (lvC h3 (by omega))) (hR.pt (lvC h3 (by omega)) rfl (by decide)) rfl ?_
  refine zc_V (n := 11) (As := []) (ci := 12) (mc := 0) (ms := 0) dX11_goodShare_8 ok_X7_countTurns ⟨ml_X11_326, im_X7_countTurns, sl_X7_countTurns⟩ rfl (hR.kd (lvC h3 (by omega))) rfl (Nat.le_of_ble_eq_true rfl) (by simp) (by omega) (Nat.le_refl _) (Nat.le_refl _) rfl rfl (c_countTurns hR h3) ?_
  refine zs_istore_n (n := 12) dX11_goodShare_11 (by decide) rfl ?_
  refine zs_iload_n (n := 13) dX11_goodShare_12 rfl rfl ?_
  refine zs_if_gt (tgt := 27) (n := 16) dX11_goodShare_13 (by decide) rfl (fun _ => ?_) (fun h => absurd h0 h)
  refine zs_aload_n (n := 28) dX11_goodShare_27 rfl rfl ?_
  refine zs_getr (b := (Λ 2)) (n := 31) dX11_goodShare_28 gf_X11_10 (hR.kd (lvC h3 (by omega))) (hR.pt (lvC h3 (by omega)) rfl (by decide)) rfl ?_
  refine zc_V (n := 34) (As := []) (ci := 12) (mc := 0) (ms := 0) dX11_goodShare_31 ok_X7_countGoodTurns ⟨ml_X11_334, im_X7_countGoodTurns, sl_X7_countGoodTurns⟩ rfl (hR.kd (lvC h3 (by omega))) rfl (Nat.le_of_ble_eq_true rfl) (by simp) (by omega) (Nat.le_refl _) (Nat.le_refl _) rfl rfl (c_countGoodTurns hR h3) ?_
  refine zs_i2f (n := 35) dX11_goodShare_34 rfl ?_
  refine zs_iload_n (n := 36) dX11_goodShare_35 rfl rfl ?_
  refine zs_i2f (n := 37) dX11_goodShare_36 rfl ?_
  refine zs_fdiv (n := 38) dX11_goodShare_37 hne rfl ?_
  refine zs_freturn dX11_goodShare_38 rfl ?_
  exact hQ
theorem f_goodShare_0  (hR : zRp Z Λ S M) (h3 : sc S 3 = 1) (hp : sV S 7 228 = 0) : zTw Z l 4 mth_X11_goodShare [.ref (Λ 1)] M 1 6 1 M := by
  intro Q hQ
  have hb0 := hR.bnd.1.1
  have hb1 := hR.bnd.1.2.1
  have hb2 := hR.bnd.1.2.2.1
  show zX Z l 4 mth_X11_goodShare 0 [(0, .ref (Λ 1))] [] M 1 6 Q
  refine zs_aload_n (n := 1) dX11_goodShare_0 rfl rfl ?_
  exact zt_V (As := []) (ci := 16) (mc := 1) (ms := 6) (nc1 := 0) (ns1 := 0) dX11_goodShare_1 ok_X11_requirePlayed ⟨ml_X11_275, im_X11_requirePlayed, sl_X11_requirePlayed⟩ rfl (hR.kd (lvC h3 (by omega))) rfl (Nat.le_of_ble_eq_true rfl) (by simp) (by omega) (Nat.le_refl _) (Nat.le_refl _) rfl (t_requirePlayed hR h3 hp) (Or.inl ⟨rfl, hQ⟩)
theorem f_goodShare_1  (hR : zRp Z Λ S M) (h3 : sc S 3 = 1) (hp : ¬ sV S 7 228 = 0) (h0 : ¬ 0 < fCountT S (sc S 0)) : zTw Z l 4 mth_X11_goodShare [.ref (Λ 1)] M 1 6 3 M := by
  intro Q hQ
  have hb0 := hR.bnd.1.1
  have hb1 := hR.bnd.1.2.1
  have hb2 := hR.bnd.1.2.2.1
  show zX Z l 4 mth_X11_goodShare 0 [(0, .ref (Λ 1))] [] M 1 6 Q
  refine zs_aload_n (n := 1) dX11_goodShare_0 rfl rfl ?_
  refine zc_V (n := 4) (As := []) (ci := 16) (mc := 0) (ms := 0) dX11_goodShare_1 ok_X11_requirePlayed ⟨ml_X11_275, im_X11_requirePlayed, sl_X11_requirePlayed⟩ rfl (hR.kd (lvC h3 (by omega))) rfl (Nat.le_of_ble_eq_true rfl) (by simp) (by omega) (Nat.le_refl _) (Nat.le_refl _) rfl rfl (c_requirePlayed hR h3 hp) ?_
  refine zs_aload_n (n := 5) dX11_goodShare_4 rfl rfl ?_
  refine zs_getr (b := (Λ 2)) (n := 8) dX11_goodShare_5 gf_X11_10 (hR.kd (lvC h3 (by omega))) (hR.pt (lvC h3 (by omega)) rfl (by decide)) rfl ?_
  refine zc_V (n := 11) (As := []) (ci := 12) (mc := 0) (ms := 0) dX11_goodShare_8 ok_X7_countTurns ⟨ml_X11_326, im_X7_countTurns, sl_X7_countTurns⟩ rfl (hR.kd (lvC h3 (by omega))) rfl (Nat.le_of_ble_eq_true rfl) (by simp) (by omega) (Nat.le_refl _) (Nat.le_refl _) rfl rfl (c_countTurns hR h3) ?_
  refine zs_istore_n (n := 12) dX11_goodShare_11 (by decide) rfl ?_
  refine zs_iload_n (n := 13) dX11_goodShare_12 rfl rfl ?_
  refine zs_if_gt (tgt := 27) (n := 16) dX11_goodShare_13 (by decide) rfl (fun h => absurd h h0) (fun _ => ?_)
  exact zs_throw thr_X11_goodShare_16 rfl (by simp) (Nat.le_refl _) (Nat.le_refl _) hQ
theorem f_meanMoney  (hR : zRp Z Λ S M) (h3 : sc S 3 = 1) (h0 : 0 < sc S 1) (hne : vf_n64 (FP.ddiv (FP.i2d (fMoney S (sc S 1))) (FP.i2d (nI (sc S 1))))) : zD Z l 4 mth_X11_meanMoney [.ref (Λ 1)] M 0 0 (some (.double (FP.ddiv (FP.i2d (fMoney S (sc S 1))) (FP.i2d (nI (sc S 1)))))) M := by
  intro Q hQ
  have hb0 := hR.bnd.1.1
  have hb1 := hR.bnd.1.2.1
  have hb2 := hR.bnd.1.2.2.1
  show zX Z l 4 mth_X11_meanMoney 0 [(0, .ref (Λ 1))] [] M 0 0 Q
  refine zs_aload_n (n := 1) dX11_meanMoney_0 rfl rfl ?_
  refine zs_getr (b := (Λ 2)) (n := 4) dX11_meanMoney_1 gf_X11_10 (hR.kd (lvC h3 (by omega))) (hR.pt (lvC h3 (by omega)) rfl (by decide)) rfl ?_
  refine zs_getr (b := (Λ 17)) (n := 7) dX11_meanMoney_4 gf_X11_115 (hR.kd (lvC h3 (by omega))) (hR.pt (lvC h3 (by omega)) rfl (by decide)) rfl ?_
  refine zc_size (c := sc S 1) (n := 10) dX11_meanMoney_7 ml_X11_79 (hR.lA h3) (by simp) (by omega) rfl ?_
  refine zs_istore_n (n := 11) dX11_meanMoney_10 (by decide) rfl ?_
  refine zs_iload_n (n := 12) dX11_meanMoney_11 rfl rfl ?_
  refine zs_if_gt (tgt := 26) (n := 15) dX11_meanMoney_12 (by decide) rfl (fun _ => ?_) (fun h => absurd (nI_lt (a := 0) h0 (by omega)) h)
  refine zs_aload_n (n := 27) dX11_meanMoney_26 rfl rfl ?_
  refine zs_getr (b := (Λ 2)) (n := 30) dX11_meanMoney_27 gf_X11_10 (hR.kd (lvC h3 (by omega))) (hR.pt (lvC h3 (by omega)) rfl (by decide)) rfl ?_
  refine zc_V (n := 33) (As := []) (ci := 12) (mc := 0) (ms := 0) dX11_meanMoney_30 ok_X7_sumMoney ⟨ml_X11_339, im_X7_sumMoney, sl_X7_sumMoney⟩ rfl (hR.kd (lvC h3 (by omega))) rfl (Nat.le_of_ble_eq_true rfl) (by simp) (by omega) (Nat.le_refl _) (Nat.le_refl _) rfl rfl (c_sumMoney hR h3) ?_
  refine zs_i2d (n := 34) dX11_meanMoney_33 rfl ?_
  refine zs_iload_n (n := 35) dX11_meanMoney_34 rfl rfl ?_
  refine zs_i2d (n := 36) dX11_meanMoney_35 rfl ?_
  refine zs_ddiv (n := 37) dX11_meanMoney_36 hne rfl ?_
  refine zs_dreturn dX11_meanMoney_37 rfl ?_
  exact hQ
theorem f_meanMoney_0  (hR : zRp Z Λ S M) (h3 : sc S 3 = 1) (h0 : sc S 1 = 0) : zTw Z l 4 mth_X11_meanMoney [.ref (Λ 1)] M 1 6 3 M := by
  intro Q hQ
  have hb0 := hR.bnd.1.1
  have hb1 := hR.bnd.1.2.1
  have hb2 := hR.bnd.1.2.2.1
  show zX Z l 4 mth_X11_meanMoney 0 [(0, .ref (Λ 1))] [] M 1 6 Q
  refine zs_aload_n (n := 1) dX11_meanMoney_0 rfl rfl ?_
  refine zs_getr (b := (Λ 2)) (n := 4) dX11_meanMoney_1 gf_X11_10 (hR.kd (lvC h3 (by omega))) (hR.pt (lvC h3 (by omega)) rfl (by decide)) rfl ?_
  refine zs_getr (b := (Λ 17)) (n := 7) dX11_meanMoney_4 gf_X11_115 (hR.kd (lvC h3 (by omega))) (hR.pt (lvC h3 (by omega)) rfl (by decide)) rfl ?_
  refine zc_size (c := sc S 1) (n := 10) dX11_meanMoney_7 ml_X11_79 (hR.lA h3) (by simp) (by omega) rfl ?_
  refine zs_istore_n (n := 11) dX11_meanMoney_10 (by decide) rfl ?_
  refine zs_iload_n (n := 12) dX11_meanMoney_11 rfl rfl ?_
  refine zs_if_gt (tgt := 26) (n := 15) dX11_meanMoney_12 (by decide) rfl (fun h => absurd h (by rw [h0]; decide)) (fun _ => ?_)
  exact zs_throw thr_X11_meanMoney_15 rfl (by simp) (Nat.le_refl _) (Nat.le_refl _) hQ
end ZFACE4
