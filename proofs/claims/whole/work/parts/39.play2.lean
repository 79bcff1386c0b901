/-! PLAY, on: a minute of a pitch, who drowns, visits, gathering -/
section ZPLAY2
variable {Z : zPar} {l : Launch} {Λ : Nat → Nat} {S : zSt} {M : zMem} {V : Nat → Nat → Int32} {pl : Nat → Option Nat} {nx : Nat → Nat}
def gLate (S : zSt) (i : Nat) (m : Nat) (t : zVp) : Bool := decide (¬ nI m + t.1 (140 + sT S i (t.2.2 i)) 161 - 1 ≤ 1199)
def gBegin (S : zSt) (i m : Nat) (t : zVp) : zVp := if gLate S i m t = true then (u2 t.1 (100 + i) 357 (nI (sc S (10 + i))), t.2.1, u1 t.2.2 i (sc S (10 + i))) else (u2 (gOpen S i (t.2.2 i) (nI m) t.1) (100 + i) 357 (nI (t.2.2 i + 1)), u1 t.2.1 i (some (t.2.2 i)), u1 t.2.2 i (t.2.2 i + 1))

theorem c_beginNext {i m : Nat} (hR : zRp Z Λ (wV S V) M) (hP : zPl Λ (wV S V, pl, nx) M) (h3 : sc S 3 = 1)(hi : i < sc S 0) (hnx : nx i < sc S (10 + i)) : zG Z l 3 mth_X6_beginNext [.ref (Λ (100 + i)), .int (nI m)] M 0 0 none (zRq Z Λ S (gBegin S i m (V, pl, nx))) := by
  intro Q hQ
  show zX Z l 3 mth_X6_beginNext 0 [(0, .ref (Λ (100 + i))), (1, .int (nI m))] [] M 0 0 Q
  refine zs_aload_n (n := 1) dX6_beginNext_0 rfl rfl ?_
  refine zs_getr (b := (Λ (120 + i))) (n := 4) dX6_beginNext_1 gf_X6_29 (hR.kP hi) (hR.pT hi) rfl ?_
  refine zs_aload_n (n := 5) dX6_beginNext_4 rfl rfl ?_
  refine zs_getv (x := (nI (nx i))) (n := 8) dX6_beginNext_5 gf_X6_52 (hR.kP hi) ((hR.iv (lvP hi) (by decide) (by decide)).trans (hP.1 _ hi).2.1) rfl ?_
  refine zc_getb (c := sc S (10 + i)) (b := (Λ (160 + 8 * i + (nx i)))) (n := 11) dX6_beginNext_8 ml_X6_75 (hR.lT hi) hnx rfl (by simp) (by omega) rfl ?_
  refine zs_castS (ci := 13) (n := 14) dX6_beginNext_11 rfl cl_X6_63 (hR.kK hi hnx) rfl ?_
  refine zs_astore_n (n := 15) dX6_beginNext_14 (by decide) rfl ?_
  refine zs_aload_n (n := 16) dX6_beginNext_15 rfl rfl ?_
  refine zs_iload_n (n := 17) dX6_beginNext_16 rfl rfl ?_
  refine zc_V (n := 20) (As := [.int (nI m)]) (ci := 13) (mc := 0) (ms := 0) dX6_beginNext_17 ok_X8_lastIfBegunAt ⟨ml_X6_79, im_X8_lastIfBegunAt, sl_X8_lastIfBegunAt⟩ rfl (hR.kK hi hnx) rfl (Nat.le_of_ble_eq_true rfl) (by simp) (by omega) (Nat.le_refl _) (Nat.le_refl _) rfl rfl (c_lastIf hR hi hnx) ?_
  refine zs_sipush (v := 1199) (n := 23) dX6_beginNext_20 (by decide) rfl ?_
  refine zs_icmp_le (tgt := 38) (n := 26) dX6_beginNext_23 (by decide) rfl (fun h23 => ?_) (fun h23 => ?_)
  · refine zs_aload_n (n := 39) dX6_beginNext_38 rfl rfl ?_
    refine zs_iload_n (n := 40) dX6_beginNext_39 rfl rfl ?_
    refine zg_V (n := 43) (As := [.int (nI m)]) (ci := 13) (mc := 0) (ms := 0) dX6_beginNext_40 ok_X8_open ⟨ml_X6_82, im_X8_open, sl_X8_open⟩ rfl (hR.kK hi hnx) rfl (Nat.le_of_ble_eq_true rfl) (by simp) (by omega) (Nat.le_refl _) (Nat.le_refl _) rfl rfl (c_open hR hP hi hnx) ?_
    intro M hR9
    have hR := hR9.1
    have hP := hR9.2
    refine zs_aload_n (n := 44) dX6_beginNext_43 rfl rfl ?_
    refine zs_aload_n (n := 45) dX6_beginNext_44 rfl rfl ?_
    refine zw_plS (i := i) (k := nx i) (S := (wV S (gOpen S i (nx i) (nI m) V))) (pl := pl) (nx := nx) (n := 48) dX6_beginNext_45 pf_X6_beginNext_58 hR hP hi hnx rfl ?_
    intro M hR hP
    have hplw45 : (u1 pl i (some (nx i))) i = some (nx i) := u1_at
    refine zs_aload_n (n := 49) dX6_beginNext_48 rfl rfl ?_
    refine zs_dup (n := 50) dX6_beginNext_49 rfl rfl ?_
    refine zs_getv (x := (nI (nx i))) (n := 53) dX6_beginNext_50 gf_X6_52 (hR.kP hi) ((hR.iv (lvP hi) (by decide) (by decide)).trans (hP.1 _ hi).2.1) rfl ?_
    refine zs_iconst (v := 1) (n := 54) dX6_beginNext_53 (by decide) rfl ?_
    refine zs_iadd (n := 55) dX6_beginNext_54 rfl ?_
    rw [show (nI (nx i) + 1 : Int32) = nI (nx i + 1) from nI_1 _]
    refine zw_nx (i := i) (x := nx i + 1) (V := (gOpen S i (nx i) (nI m) V)) (pl := (u1 pl i (some (nx i)))) (nx := nx) (n := 58) dX6_beginNext_55 pf_X6_beginNext_52 hR hP hi (by omega) rfl ?_
    intro M hR hP
    refine zs_return dX6_beginNext_58 rfl ?_
    have hq : zRq Z Λ S (gBegin S i m (V, pl, nx)) M := by
      unfold gBegin
      first
      | (rw [if_pos (show gLate S i m (V, pl, nx) = true from by unfold gLate; exact decide_eq_true h23)]; exact ⟨hR, hP⟩)
      | (rw [if_neg (show ¬ gLate S i m (V, pl, nx) = true from by unfold gLate; simp only [decide_eq_true_eq]; exact fun h9 => h9 h23)]; exact ⟨hR, hP⟩)
    exact hQ _ hq
  · refine zs_aload_n (n := 27) dX6_beginNext_26 rfl rfl ?_
    refine zs_aload_n (n := 28) dX6_beginNext_27 rfl rfl ?_
    refine zs_getr (b := (Λ (120 + i))) (n := 31) dX6_beginNext_28 gf_X6_29 (hR.kP hi) (hR.pT hi) rfl ?_
    refine zc_size (c := sc S (10 + i)) (n := 34) dX6_beginNext_31 ml_X6_67 (hR.lT hi) (by simp) (by omega) rfl ?_
    refine zw_nx (i := i) (x := sc S (10 + i)) (V := V) (pl := pl) (nx := nx) (n := 37) dX6_beginNext_34 pf_X6_beginNext_52 hR hP hi (Nat.le_refl _) rfl ?_
    intro M hR hP
    refine zs_return dX6_beginNext_37 rfl ?_
    have hq : zRq Z Λ S (gBegin S i m (V, pl, nx)) M := by
      unfold gBegin
      first
      | (rw [if_pos (show gLate S i m (V, pl, nx) = true from by unfold gLate; exact decide_eq_true h23)]; exact ⟨hR, hP⟩)
      | (rw [if_neg (show ¬ gLate S i m (V, pl, nx) = true from by unfold gLate; simp only [decide_eq_true_eq]; exact fun h9 => h9 h23)]; exact ⟨hR, hP⟩)
    exact hQ _ hq
def gEnded (i m : Nat) (t : zVp) : Bool := match t.2.1 i with
  | none => false
  | some k => decide (¬ nI m ≤ t.1 (160 + 8 * i + k) 418)
def gClose (i m : Nat) (t : zVp) : zVp := match t.2.1 i with
  | none => t
  | some k => if nI m ≤ t.1 (160 + 8 * i + k) 418 then t else (u2 t.1 (100 + i) 358 (t.1 (160 + 8 * i + k) 418 + 5 + 1), u1 t.2.1 i none, t.2.2)
def gStart (S : zSt) (i m : Nat) (t : zVp) : zVp := match t.2.1 i with
  | none => if nI m = t.1 (100 + i) 358 ∧ t.2.2 i < sc S (10 + i) then gBegin S i m t else t
  | some _ => t
def gMin (S : zSt) (i m : Nat) (t : zVp) : zVp := gStart S i m (gClose i m t)
def gOver (S : zSt) (i : Nat) (t : zVp) : Bool := match t.2.1 i with
  | none => decide (¬ t.2.2 i < sc S (10 + i))
  | some _ => false
theorem c_PopenMinute {i m : Nat} (hR : zRp Z Λ (wV S V) M) (hP : zPl Λ (wV S V, pl, nx) M) (h3 : sc S 3 = 1)(hi : i < sc S 0) : zG Z l 4 mth_X6_openMinute [.ref (Λ (100 + i)), .int (nI m)] M 0 0 none (zRq Z Λ S (gMin S i m (V, pl, nx))) := by
  intro Q hQ
  have hb2 : sc S (10 + i) ≤ 8 := hR.bnd.1.2.2.2 i
  have hnb : nx i ≤ sc S (10 + i) := (hP.1 i hi).2.2
  show zX Z l 4 mth_X6_openMinute 0 [(0, .ref (Λ (100 + i))), (1, .int (nI m))] [] M 0 0 Q
  refine zs_aload_n (n := 1) dX6_openMinute_0 rfl rfl ?_
  rcases zopt (pl i) with hpl1 | ⟨k1, hpl1⟩
  · refine zs_getN (n := 4) dX6_openMinute_1 gf_X6_58 (hR.kP hi) (((hP.1 _ hi).1.1).trans (by show (pl i).map _ = _; rw [hpl1]; rfl)) rfl ?_
    refine zs_ifnullN (tgt := 38) dX6_openMinute_4 (by decide) ?_
    refine zs_aload_n (n := 39) dX6_openMinute_38 rfl rfl ?_
    refine zs_getN (n := 42) dX6_openMinute_39 gf_X6_58 (hR.kP hi) (((hP.1 _ hi).1.1).trans (by show (pl i).map _ = _; rw [hpl1]; rfl)) rfl ?_
    refine zs_ifnonnullN (n := 45) dX6_openMinute_42 rfl ?_
    refine zs_iload_n (n := 46) dX6_openMinute_45 rfl rfl ?_
    refine zs_aload_n (n := 47) dX6_openMinute_46 rfl rfl ?_
    refine zs_getv (x := (V (100 + i) 358)) (n := 50) dX6_openMinute_47 gf_X6_55 (hR.kP hi) (hR.iv (lvP hi) (by decide) (by decide)) rfl ?_
    refine zs_icmp_ne (tgt := 72) (n := 53) dX6_openMinute_50 (by decide) rfl (fun h50 => ?_) (fun h50 => ?_)
    · refine zs_return dX6_openMinute_72 rfl (hQ _ ?_)
      have hc : gClose i m (V, pl, nx) = (V, pl, nx) := by
        unfold gClose
        simp only [hpl1]
      show zRq Z Λ S (gStart S i m (gClose i m (V, pl, nx))) M
      rw [hc]
      rw [show gStart S i m (V, pl, nx) = (V, pl, nx) from by unfold gStart; simp only [hpl1]; exact if_neg (fun h9 => by first | exact h50 h9.1 | exact absurd h64 (nI_ge h9.2 (by omega)))]
      exact ⟨hR, hP⟩
    · refine zs_aload_n (n := 54) dX6_openMinute_53 rfl rfl ?_
      refine zs_getv (x := (nI (nx i))) (n := 57) dX6_openMinute_54 gf_X6_52 (hR.kP hi) ((hR.iv (lvP hi) (by decide) (by decide)).trans (hP.1 _ hi).2.1) rfl ?_
      refine zs_aload_n (n := 58) dX6_openMinute_57 rfl rfl ?_
      refine zs_getr (b := (Λ (120 + i))) (n := 61) dX6_openMinute_58 gf_X6_29 (hR.kP hi) (hR.pT hi) rfl ?_
      refine zc_size (c := sc S (10 + i)) (n := 64) dX6_openMinute_61 ml_X6_67 (hR.lT hi) (by simp) (by omega) rfl ?_
      refine zs_icmp_ge (tgt := 72) (n := 67) dX6_openMinute_64 (by decide) rfl (fun h64 => ?_) (fun h64 => ?_)
      · refine zs_return dX6_openMinute_72 rfl (hQ _ ?_)
        have hc : gClose i m (V, pl, nx) = (V, pl, nx) := by
          unfold gClose
          simp only [hpl1]
        show zRq Z Λ S (gStart S i m (gClose i m (V, pl, nx))) M
        rw [hc]
        rw [show gStart S i m (V, pl, nx) = (V, pl, nx) from by unfold gStart; simp only [hpl1]; exact if_neg (fun h9 => by first | exact h50 h9.1 | exact absurd h64 (nI_ge h9.2 (by omega)))]
        exact ⟨hR, hP⟩
      · refine zs_aload_n (n := 68) dX6_openMinute_67 rfl rfl ?_
        refine zs_iload_n (n := 69) dX6_openMinute_68 rfl rfl ?_
        have hnx9 : nx i < sc S (10 + i) := Nat.lt_of_not_le (fun h => h64 (nI_le h (by omega)))
        refine zg_V (n := 72) (As := [.int (nI m)]) (ci := 11) (mc := 0) (ms := 0) dX6_openMinute_69 ok_X6_beginNext ⟨ml_X6_71, im_X6_beginNext, sl_X6_beginNext⟩ rfl (hR.kP hi) rfl (Nat.le_of_ble_eq_true rfl) (by simp) (by omega) (Nat.le_refl _) (Nat.le_refl _) rfl rfl (c_beginNext hR hP h3 hi hnx9) ?_
        intro M hR9
        have hR := hR9.1
        have hP := hR9.2
        refine zs_return dX6_openMinute_72 rfl (hQ _ ?_)
        have hc : gClose i m (V, pl, nx) = (V, pl, nx) := by
          unfold gClose
          simp only [hpl1]
        show zRq Z Λ S (gStart S i m (gClose i m (V, pl, nx))) M
        rw [hc]
        rw [show gStart S i m (V, pl, nx) = gBegin S i m (V, pl, nx) from by unfold gStart; simp only [hpl1]; exact if_pos ⟨h50, hnx9⟩]
        exact hR9
  · have hk1 := (hP.1 _ hi).1.2 k1 hpl1
    refine zs_getr (b := (Λ (160 + 8 * i + k1))) (n := 4) dX6_openMinute_1 gf_X6_58 (hR.kP hi) (((hP.1 _ hi).1.1).trans (by show (pl i).map _ = _; rw [hpl1]; rfl)) rfl ?_
    refine zs_ifnull (n := 7) dX6_openMinute_4 rfl ?_
    refine zs_aload_n (n := 8) dX6_openMinute_7 rfl rfl ?_
    refine zs_getr (b := (Λ (160 + 8 * i + k1))) (n := 11) dX6_openMinute_8 gf_X6_58 (hR.kP hi) (((hP.1 _ hi).1.1).trans (by show (pl i).map _ = _; rw [hpl1]; rfl)) rfl ?_
    refine zs_getv (x := (V (160 + 8 * i + k1) 418)) (n := 14) dX6_openMinute_11 gf_X6_62 (hR.kK hi hk1) (hR.iv (lvK hi hk1) (by decide) (by decide)) rfl ?_
    refine zs_iload_n (n := 15) dX6_openMinute_14 rfl rfl ?_
    refine zs_icmp_ge (tgt := 38) (n := 18) dX6_openMinute_15 (by decide) rfl (fun h15 => ?_) (fun h15 => ?_)
    · refine zs_aload_n (n := 39) dX6_openMinute_38 rfl rfl ?_
      refine zs_getr (b := (Λ (160 + 8 * i + k1))) (n := 42) dX6_openMinute_39 gf_X6_58 (hR.kP hi) (((hP.1 _ hi).1.1).trans (by show (pl i).map _ = _; rw [hpl1]; rfl)) rfl ?_
      refine zs_ifnonnull (tgt := 72) dX6_openMinute_42 (by decide) ?_
      refine zs_return dX6_openMinute_72 rfl (hQ _ ?_)
      have hc : gClose i m (V, pl, nx) = (V, pl, nx) := by
        unfold gClose
        simp only [hpl1]
        exact if_pos h15
      show zRq Z Λ S (gStart S i m (gClose i m (V, pl, nx))) M
      rw [hc]
      rw [show gStart S i m (V, pl, nx) = (V, pl, nx) from by unfold gStart; simp only [hpl1]]
      exact ⟨hR, hP⟩
    · refine zs_aload_n (n := 19) dX6_openMinute_18 rfl rfl ?_
      refine zs_aload_n (n := 20) dX6_openMinute_19 rfl rfl ?_
      refine zs_getr (b := (Λ (160 + 8 * i + k1))) (n := 23) dX6_openMinute_20 gf_X6_58 (hR.kP hi) (((hP.1 _ hi).1.1).trans (by show (pl i).map _ = _; rw [hpl1]; rfl)) rfl ?_
      refine zs_getv (x := (V (160 + 8 * i + k1) 418)) (n := 26) dX6_openMinute_23 gf_X6_62 (hR.kK hi hk1) (hR.iv (lvK hi hk1) (by decide) (by decide)) rfl ?_
      refine zs_iconst (v := 5) (n := 27) dX6_openMinute_26 (by decide) rfl ?_
      refine zs_iadd (n := 28) dX6_openMinute_27 rfl ?_
      refine zs_iconst (v := 1) (n := 29) dX6_openMinute_28 (by decide) rfl ?_
      refine zs_iadd (n := 30) dX6_openMinute_29 rfl ?_
      refine zw_i (r := (100 + i)) (n := 33) dX6_openMinute_30 pf_X6_openMinute_55 hR (lvP hi) (hR.kP hi) ⟨rfl, rfl⟩ (by decide) rfl ?_
      intro M hR hv
      have hR : zRp Z Λ (wV S (u2 V (100 + i) 358 (((V (160 + 8 * i + k1) 418) + (5 : Int32)) + (1 : Int32)))) M := hR
      have hP : zPl Λ ((wV S (u2 V (100 + i) 358 (((V (160 + 8 * i + k1) 418) + (5 : Int32)) + (1 : Int32)))), pl, nx) M := zPl.of (T := (wV S V, pl, nx)) hP hv rfl rfl (fun _ => rfl) (fun _ => rfl)
      refine zs_aload_n (n := 34) dX6_openMinute_33 rfl rfl ?_
      refine zs_null (n := 35) dX6_openMinute_34 rfl ?_
      refine zw_plN (i := i) (S := (wV S (u2 V (100 + i) 358 (((V (160 + 8 * i + k1) 418) + (5 : Int32)) + (1 : Int32))))) (pl := pl) (nx := nx) (n := 38) dX6_openMinute_35 pf_X6_openMinute_58 hR hP hi rfl ?_
      intro M hR hP
      have hplw35 : (u1 pl i none) i = none := u1_at
      refine zs_aload_n (n := 39) dX6_openMinute_38 rfl rfl ?_
      refine zs_getN (n := 42) dX6_openMinute_39 gf_X6_58 (hR.kP hi) (((hP.1 _ hi).1.1).trans (by show ((u1 pl i none) i).map _ = _; rw [hplw35]; rfl)) rfl ?_
      refine zs_ifnonnullN (n := 45) dX6_openMinute_42 rfl ?_
      refine zs_iload_n (n := 46) dX6_openMinute_45 rfl rfl ?_
      refine zs_aload_n (n := 47) dX6_openMinute_46 rfl rfl ?_
      refine zs_getv (x := ((u2 V (100 + i) 358 (((V (160 + 8 * i + k1) 418) + (5 : Int32)) + (1 : Int32))) (100 + i) 358)) (n := 50) dX6_openMinute_47 gf_X6_55 (hR.kP hi) (hR.iv (lvP hi) (by decide) (by decide)) rfl ?_
      refine zs_icmp_ne (tgt := 72) (n := 53) dX6_openMinute_50 (by decide) rfl (fun h50 => ?_) (fun h50 => ?_)
      · refine zs_return dX6_openMinute_72 rfl (hQ _ ?_)
        have hc : gClose i m (V, pl, nx) = (u2 V (100 + i) 358 (V (160 + 8 * i + k1) 418 + 5 + 1), u1 pl i none, nx) := by
          unfold gClose
          simp only [hpl1]
          exact if_neg h15
        show zRq Z Λ S (gStart S i m (gClose i m (V, pl, nx))) M
        rw [hc]
        rw [show gStart S i m (u2 V (100 + i) 358 (V (160 + 8 * i + k1) 418 + 5 + 1), u1 pl i none, nx) = (u2 V (100 + i) 358 (V (160 + 8 * i + k1) 418 + 5 + 1), u1 pl i none, nx) from by unfold gStart; simp only [show u1 pl i none i = none from u1_at]; exact if_neg (fun h9 => by first | exact h50 h9.1 | exact absurd h64 (nI_ge h9.2 (by omega)))]
        exact ⟨hR, hP⟩
      · refine zs_aload_n (n := 54) dX6_openMinute_53 rfl rfl ?_
        refine zs_getv (x := (nI (nx i))) (n := 57) dX6_openMinute_54 gf_X6_52 (hR.kP hi) ((hR.iv (lvP hi) (by decide) (by decide)).trans (hP.1 _ hi).2.1) rfl ?_
        refine zs_aload_n (n := 58) dX6_openMinute_57 rfl rfl ?_
        refine zs_getr (b := (Λ (120 + i))) (n := 61) dX6_openMinute_58 gf_X6_29 (hR.kP hi) (hR.pT hi) rfl ?_
        refine zc_size (c := sc S (10 + i)) (n := 64) dX6_openMinute_61 ml_X6_67 (hR.lT hi) (by simp) (by omega) rfl ?_
        refine zs_icmp_ge (tgt := 72) (n := 67) dX6_openMinute_64 (by decide) rfl (fun h64 => ?_) (fun h64 => ?_)
        · refine zs_return dX6_openMinute_72 rfl (hQ _ ?_)
          have hc : gClose i m (V, pl, nx) = (u2 V (100 + i) 358 (V (160 + 8 * i + k1) 418 + 5 + 1), u1 pl i none, nx) := by
            unfold gClose
            simp only [hpl1]
            exact if_neg h15
          show zRq Z Λ S (gStart S i m (gClose i m (V, pl, nx))) M
          rw [hc]
          rw [show gStart S i m (u2 V (100 + i) 358 (V (160 + 8 * i + k1) 418 + 5 + 1), u1 pl i none, nx) = (u2 V (100 + i) 358 (V (160 + 8 * i + k1) 418 + 5 + 1), u1 pl i none, nx) from by unfold gStart; simp only [show u1 pl i none i = none from u1_at]; exact if_neg (fun h9 => by first | exact h50 h9.1 | exact absurd h64 (nI_ge h9.2 (by omega)))]
          exact ⟨hR, hP⟩
        · refine zs_aload_n (n := 68) dX6_openMinute_67 rfl rfl ?_
          refine zs_iload_n (n := 69) dX6_openMinute_68 rfl rfl ?_
          have hnx9 : nx i < sc S (10 + i) := Nat.lt_of_not_le (fun h => h64 (nI_le h (by omega)))
          refine zg_V (n := 72) (As := [.int (nI m)]) (ci := 11) (mc := 0) (ms := 0) dX6_openMinute_69 ok_X6_beginNext ⟨ml_X6_71, im_X6_beginNext, sl_X6_beginNext⟩ rfl (hR.kP hi) rfl (Nat.le_of_ble_eq_true rfl) (by simp) (by omega) (Nat.le_refl _) (Nat.le_refl _) rfl rfl (c_beginNext hR hP h3 hi hnx9) ?_
          intro M hR9
          have hR := hR9.1
          have hP := hR9.2
          refine zs_return dX6_openMinute_72 rfl (hQ _ ?_)
          have hc : gClose i m (V, pl, nx) = (u2 V (100 + i) 358 (V (160 + 8 * i + k1) 418 + 5 + 1), u1 pl i none, nx) := by
            unfold gClose
            simp only [hpl1]
            exact if_neg h15
          show zRq Z Λ S (gStart S i m (gClose i m (V, pl, nx))) M
          rw [hc]
          rw [show gStart S i m (u2 V (100 + i) 358 (V (160 + 8 * i + k1) 418 + 5 + 1), u1 pl i none, nx) = gBegin S i m (u2 V (100 + i) 358 (V (160 + 8 * i + k1) 418 + 5 + 1), u1 pl i none, nx) from by unfold gStart; simp only [show u1 pl i none i = none from u1_at]; exact if_pos ⟨h50, hnx9⟩]
          exact hR9
theorem c_PisOver {i : Nat} (hR : zRp Z Λ (wV S V) M) (hP : zPl Λ (wV S V, pl, nx) M) (h3 : sc S 3 = 1)(hi : i < sc S 0) : zD Z l 1 mth_X6_isOver [.ref (Λ (100 + i))] M 0 0 (some (.int (zb (gOver S i (V, pl, nx))))) M := by
  intro Q hQ
  have hb2 : sc S (10 + i) ≤ 8 := hR.bnd.1.2.2.2 i
  have hnb : nx i ≤ sc S (10 + i) := (hP.1 i hi).2.2
  show zX Z l 1 mth_X6_isOver 0 [(0, .ref (Λ (100 + i)))] [] M 0 0 Q
  refine zs_aload_n (n := 1) dX6_isOver_0 rfl rfl ?_
  rcases zopt (pl i) with hpl1 | ⟨k1, hpl1⟩
  · refine zs_getN (n := 4) dX6_isOver_1 gf_X6_58 (hR.kP hi) (((hP.1 _ hi).1.1).trans (by show (pl i).map _ = _; rw [hpl1]; rfl)) rfl ?_
    refine zs_ifnonnullN (n := 7) dX6_isOver_4 rfl ?_
    refine zs_aload_n (n := 8) dX6_isOver_7 rfl rfl ?_
    refine zs_getv (x := (nI (nx i))) (n := 11) dX6_isOver_8 gf_X6_52 (hR.kP hi) ((hR.iv (lvP hi) (by decide) (by decide)).trans (hP.1 _ hi).2.1) rfl ?_
    refine zs_aload_n (n := 12) dX6_isOver_11 rfl rfl ?_
    refine zs_getr (b := (Λ (120 + i))) (n := 15) dX6_isOver_12 gf_X6_29 (hR.kP hi) (hR.pT hi) rfl ?_
    refine zc_size (c := sc S (10 + i)) (n := 18) dX6_isOver_15 ml_X6_67 (hR.lT hi) (by simp) (by omega) rfl ?_
    refine zs_icmp_lt (tgt := 25) (n := 21) dX6_isOver_18 (by decide) rfl (fun h18 => ?_) (fun h18 => ?_)
    · refine zs_iconst (v := 0) (n := 26) dX6_isOver_25 (by decide) rfl ?_
      refine zs_ireturn dX6_isOver_26 ⟨_, rfl, rfl⟩ ?_
      unfold gOver at hQ
      simp only [hpl1] at hQ
      first
      | exact hQ
      | (rw [decide_eq_false (show ¬ ¬ nx i < sc S (10 + i) from fun h9 => h9 ((nI_ltI (by omega) (by omega)).mp h18))] at hQ; exact hQ)
      | (rw [decide_eq_true (show ¬ nx i < sc S (10 + i) from fun h9 => h18 (nI_lt h9 (by omega)))] at hQ; exact hQ)
    · refine zs_iconst (v := 1) (n := 22) dX6_isOver_21 (by decide) rfl ?_
      refine zs_goto (tgt := 26) dX6_isOver_22 (by decide) ?_
      refine zs_ireturn dX6_isOver_26 ⟨_, rfl, rfl⟩ ?_
      unfold gOver at hQ
      simp only [hpl1] at hQ
      first
      | exact hQ
      | (rw [decide_eq_false (show ¬ ¬ nx i < sc S (10 + i) from fun h9 => h9 ((nI_ltI (by omega) (by omega)).mp h18))] at hQ; exact hQ)
      | (rw [decide_eq_true (show ¬ nx i < sc S (10 + i) from fun h9 => h18 (nI_lt h9 (by omega)))] at hQ; exact hQ)
  · have hk1 := (hP.1 _ hi).1.2 k1 hpl1
    refine zs_getr (b := (Λ (160 + 8 * i + k1))) (n := 4) dX6_isOver_1 gf_X6_58 (hR.kP hi) (((hP.1 _ hi).1.1).trans (by show (pl i).map _ = _; rw [hpl1]; rfl)) rfl ?_
    refine zs_ifnonnull (tgt := 25) dX6_isOver_4 (by decide) ?_
    refine zs_iconst (v := 0) (n := 26) dX6_isOver_25 (by decide) rfl ?_
    refine zs_ireturn dX6_isOver_26 ⟨_, rfl, rfl⟩ ?_
    unfold gOver at hQ
    simp only [hpl1] at hQ
    first
    | exact hQ
    | (rw [decide_eq_false (show ¬ ¬ nx i < sc S (10 + i) from fun h9 => h9 ((nI_ltI (by omega) (by omega)).mp h18))] at hQ; exact hQ)
    | (rw [decide_eq_true (show ¬ nx i < sc S (10 + i) from fun h9 => h18 (nI_lt h9 (by omega)))] at hQ; exact hQ)
def gAllOver (S : zSt) (t : zVp) : Bool := !zany (fun i => !gOver S i t) (sc S 0)
theorem c_isOver  (hR : zRp Z Λ (wV S V) M) (hP : zPl Λ (wV S V, pl, nx) M) (h3 : sc S 3 = 1) : zD Z l 4 mth_X7_isOver [.ref (Λ 2)] M 0 0 (some (.int (zb (gAllOver S (V, pl, nx))))) M := by
  intro Q hQ
  show zX Z l 4 mth_X7_isOver 0 [(0, .ref (Λ 2))] [] M 0 0 Q
  refine zs_iconst (v := 0) (n := 1) dX7_isOver_0 (by decide) rfl ?_
  refine zs_istore_n (n := 2) dX7_isOver_1 (by decide) rfl ?_
  refine zX.sub (L' := [(0, .ref (Λ 2)), (1, .int (nI 0))]) ⟨rfl, rfl, trivial⟩ ?_
  refine zloop (n := sc S 0) (X := fun j => zany (fun i => !gOver S i (V, pl, nx)) j = false → zX Z l 4 mth_X7_isOver 2 [(0, .ref (Λ 2)), (1, .int (nI j))] [] M 0 0 Q) (fun j hj ih => ?_) ?_ 0 (Nat.zero_le _) ?_
  · intro H
    have hb : sc S 0 ≤ _ := hR.bnd.1.1
    refine zs_iload_n (n := 3) dX7_isOver_2 rfl rfl ?_
    refine zs_aload_n (n := 4) dX7_isOver_3 rfl rfl ?_
    refine zs_getr (b := (Λ 15)) (n := 7) dX7_isOver_4 gf_X7_10 (hR.kd (lvC h3 (by omega))) (hR.pt (lvC h3 (by omega)) rfl (by decide)) rfl ?_
    refine zc_size (c := sc S 0) (n := 10) dX7_isOver_7 ml_X7_19 (hR.lP h3) (by simp) (by omega) rfl ?_
    refine zs_icmp_ge (tgt := 38) (n := 13) dX7_isOver_10 (by decide) rfl (fun h => absurd h (nI_ge hj (by omega))) (fun _ => ?_)
    refine zs_aload_n (n := 14) dX7_isOver_13 rfl rfl ?_
    refine zs_getr (b := (Λ 15)) (n := 17) dX7_isOver_14 gf_X7_10 (hR.kd (lvC h3 (by omega))) (hR.pt (lvC h3 (by omega)) rfl (by decide)) rfl ?_
    refine zs_iload_n (n := 18) dX7_isOver_17 rfl rfl ?_
    refine zc_getb (c := sc S 0) (b := (Λ (100 + j))) (n := 21) dX7_isOver_18 ml_X7_23 (hR.lP h3) hj rfl (by simp) (by omega) rfl ?_
    refine zs_castS (ci := 11) (n := 24) dX7_isOver_21 rfl cl_X7_27 (hR.kP hj) rfl ?_
    refine zc_V (n := 27) (As := []) (ci := 11) (mc := 0) (ms := 0) dX7_isOver_24 ok_X6_isOver ⟨ml_X7_63, im_X6_isOver, sl_X6_isOver⟩ rfl (hR.kP hj) rfl (Nat.le_of_ble_eq_true rfl) (by simp) (by omega) (Nat.le_refl _) (Nat.le_refl _) rfl rfl (c_PisOver hR hP h3 hj) ?_
    refine zs_if_ne (tgt := 32) (n := 30) dX7_isOver_27 (by decide) rfl (fun h27 => ?_) (fun h27 => ?_)
    · refine zs_iinc (v := (nI (j + 1))) (n := 35) dX7_isOver_32 rfl (nI_1 _) (by decide) rfl ?_
      refine zs_goto (tgt := 2) dX7_isOver_35 (by decide) ?_
      refine zX.sub (L' := [(0, .ref (Λ 2)), (1, .int (nI (j + 1)))]) ⟨rfl, rfl, trivial⟩ ?_
      refine ih (zany_no H ?_)
      cases h9 : gOver S j (V, pl, nx)
      · exact absurd (by rw [h9]; rfl) h27
      · rfl
    · refine zs_iconst (v := 0) (n := 31) dX7_isOver_30 (by decide) rfl ?_
      refine zs_ireturn dX7_isOver_31 ⟨_, rfl, rfl⟩ ?_
      unfold gAllOver at hQ
      rw [zany_hit (p := fun i => !gOver S i (V, pl, nx)) (by cases h9 : gOver S j (V, pl, nx) <;> simp_all [zb]) hj] at hQ
      exact hQ
  · intro H
    have hb : sc S 0 ≤ _ := hR.bnd.1.1
    refine zs_iload_n (n := 3) dX7_isOver_2 rfl rfl ?_
    refine zs_aload_n (n := 4) dX7_isOver_3 rfl rfl ?_
    refine zs_getr (b := (Λ 15)) (n := 7) dX7_isOver_4 gf_X7_10 (hR.kd (lvC h3 (by omega))) (hR.pt (lvC h3 (by omega)) rfl (by decide)) rfl ?_
    refine zc_size (c := sc S 0) (n := 10) dX7_isOver_7 ml_X7_19 (hR.lP h3) (by simp) (by omega) rfl ?_
    refine zs_icmp_ge (tgt := 38) (n := 13) dX7_isOver_10 (by decide) rfl (fun _ => ?_) (fun h => absurd (nI_le (Nat.le_refl _) (by omega)) h)
    refine zs_iconst (v := 1) (n := 39) dX7_isOver_38 (by decide) rfl ?_
    refine zs_ireturn dX7_isOver_39 ⟨_, rfl, rfl⟩ ?_
    unfold gAllOver at hQ
    rw [H] at hQ
    exact hQ
  · rfl
def gMinAll (S : zSt) (m j : Nat) (t : zVp) : zVp := zit (fun i t => gMin S i m t) j t
theorem c_openMinute {m : Nat} (hR : zRp Z Λ (wV S V) M) (hP : zPl Λ (wV S V, pl, nx) M) (h3 : sc S 3 = 1) : zG Z l 5 mth_X7_openMinute [.ref (Λ 2), .int (nI m)] M 0 0 none (zRq Z Λ S (gMinAll S m (sc S 0) (V, pl, nx))) := by
  intro Q hQ
  show zX Z l 5 mth_X7_openMinute 0 [(0, .ref (Λ 2)), (1, .int (nI m))] [] M 0 0 Q
  refine zs_iconst (v := 0) (n := 1) dX7_openMinute_0 (by decide) rfl ?_
  refine zs_istore_n (n := 2) dX7_openMinute_1 (by decide) rfl ?_
  refine zX.sub (L' := [(0, .ref (Λ 2)), (1, .int (nI m)), (2, .int (nI 0))]) ⟨rfl, rfl, rfl, trivial⟩ ?_
  refine zloop (n := sc S 0) (X := fun j => ∀ M, zRq Z Λ S (gMinAll S m j (V, pl, nx)) M → zX Z l 5 mth_X7_openMinute 2 [(0, .ref (Λ 2)), (1, .int (nI m)), (2, .int (nI j))] [] M 0 0 Q) (fun j hj ih => ?_) ?_ 0 (Nat.zero_le _) M ?_
  · intro M hR9
    have hR := hR9.1
    have hP := hR9.2
    have hb : sc S 0 ≤ 6 := hR.bnd.1.1
    refine zs_iload_n (n := 3) dX7_openMinute_2 rfl rfl ?_
    refine zs_aload_n (n := 4) dX7_openMinute_3 rfl rfl ?_
    refine zs_getr (b := (Λ 15)) (n := 7) dX7_openMinute_4 gf_X7_10 (hR.kd (lvC h3 (by omega))) (hR.pt (lvC h3 (by omega)) rfl (by decide)) rfl ?_
    refine zc_size (c := sc S 0) (n := 10) dX7_openMinute_7 ml_X7_19 (hR.lP h3) (by simp) (by omega) rfl ?_
    refine zs_icmp_ge (tgt := 34) (n := 13) dX7_openMinute_10 (by decide) rfl (fun h => absurd h (nI_ge hj (by omega))) (fun _ => ?_)
    refine zs_aload_n (n := 14) dX7_openMinute_13 rfl rfl ?_
    refine zs_getr (b := (Λ 15)) (n := 17) dX7_openMinute_14 gf_X7_10 (hR.kd (lvC h3 (by omega))) (hR.pt (lvC h3 (by omega)) rfl (by decide)) rfl ?_
    refine zs_iload_n (n := 18) dX7_openMinute_17 rfl rfl ?_
    refine zc_getb (c := sc S 0) (b := (Λ (100 + j))) (n := 21) dX7_openMinute_18 ml_X7_23 (hR.lP h3) hj rfl (by simp) (by omega) rfl ?_
    refine zs_castS (ci := 11) (n := 24) dX7_openMinute_21 rfl cl_X7_27 (hR.kP hj) rfl ?_
    refine zs_iload_n (n := 25) dX7_openMinute_24 rfl rfl ?_
    refine zg_V (n := 28) (As := [.int (nI m)]) (ci := 11) (mc := 0) (ms := 0) dX7_openMinute_25 ok_X6_openMinute ⟨ml_X7_59, im_X6_openMinute, sl_X6_openMinute⟩ rfl (hR.kP hj) rfl (Nat.le_of_ble_eq_true rfl) (by simp) (by omega) (Nat.le_refl _) (Nat.le_refl _) rfl rfl (c_PopenMinute hR hP h3 hj) ?_
    intro M hR9
    have hR := hR9.1
    have hP := hR9.2
    refine zs_iinc (v := (nI (j + 1))) (n := 31) dX7_openMinute_28 rfl (nI_1 _) (by decide) rfl ?_
    refine zs_goto (tgt := 2) dX7_openMinute_31 (by decide) ?_
    refine zX.sub (L' := [(0, .ref (Λ 2)), (1, .int (nI m)), (2, .int (nI (j + 1)))]) ⟨rfl, rfl, rfl, trivial⟩ ?_
    exact ih M hR9
  · intro M hR9
    have hR := hR9.1
    have hP := hR9.2
    have hb : sc S 0 ≤ 6 := hR.bnd.1.1
    refine zs_iload_n (n := 3) dX7_openMinute_2 rfl rfl ?_
    refine zs_aload_n (n := 4) dX7_openMinute_3 rfl rfl ?_
    refine zs_getr (b := (Λ 15)) (n := 7) dX7_openMinute_4 gf_X7_10 (hR.kd (lvC h3 (by omega))) (hR.pt (lvC h3 (by omega)) rfl (by decide)) rfl ?_
    refine zc_size (c := sc S 0) (n := 10) dX7_openMinute_7 ml_X7_19 (hR.lP h3) (by simp) (by omega) rfl ?_
    refine zs_icmp_ge (tgt := 34) (n := 13) dX7_openMinute_10 (by decide) rfl (fun _ => ?_) (fun h => absurd (nI_le (Nat.le_refl _) (by omega)) h)
    refine zs_return dX7_openMinute_34 rfl ?_
    exact hQ _ hR9
  · exact ⟨hR, hP⟩
theorem zX.top {d : Nat} {mm : zMeth} {pc nc ns : Nat} {L : List (Nat × Value)} {st : List Value} {Q : zO → zMem → Prop} {x y : Int32} (h : x = y) (k : zX Z l d mm pc L (.int y :: st) M nc ns Q) : zX Z l d mm pc L (.int x :: st) M nc ns Q := h ▸ k
theorem zb0 {b : Bool} : zb b = 0 ↔ b = false := by cases b <;> decide
theorem zb1 {b : Bool} : ¬ zb b = 0 ↔ b = true := by cases b <;> decide
def gDr (S : zSt) (a i : Nat) (t : zVp) (j : Nat) : Bool := !decide (j = i) && (match t.2.1 j with
  | none => false
  | some k => decide (¬ gLoud t.1 j i (sT S j k) ≤ 10 * t.1 (140 + a) 162))
def gDrown (S : zSt) (a i : Nat) (t : zVp) : Bool := zany (gDr S a i t) (sc S 0)
def gNr (i : Nat) (x : Int32) (t : zVp) (j : Nat) : Bool := !decide (j = i) && (match t.2.1 j with
  | none => false
  | some _ => decide (¬ x ≤ gYd t.1 j i))
def gNear (S : zSt) (i : Nat) (x : Int32) (t : zVp) : Bool := zany (gNr i x t) (sc S 0)
theorem c_isDrowned {a i : Nat} (hR : zRp Z Λ (wV S V) M) (hP : zPl Λ (wV S V, pl, nx) M) (h3 : sc S 3 = 1)(ha : a < sc S 1) (hi : i < sc S 0) : zD Z l 4 mth_X7_isDrowned [.ref (Λ 2), .ref (Λ (140 + a)), .ref (Λ (100 + i))] M 0 0 (some (.int (zb (gDrown S a i (V, pl, nx))))) M := by
  intro Q hQ
  show zX Z l 4 mth_X7_isDrowned 0 [(0, .ref (Λ 2)), (1, .ref (Λ (140 + a))), (2, .ref (Λ (100 + i)))] [] M 0 0 Q
  refine zs_iconst (v := 0) (n := 1) dX7_isDrowned_0 (by decide) rfl ?_
  refine zs_istore_n (n := 2) dX7_isDrowned_1 (by decide) rfl ?_
  refine zX.sub (L' := [(0, .ref (Λ 2)), (1, .ref (Λ (140 + a))), (2, .ref (Λ (100 + i))), (3, .int (nI 0))]) ⟨rfl, rfl, rfl, rfl, trivial⟩ ?_
  refine zloop (n := sc S 0) (X := fun j => zany (gDr S a i (V, pl, nx)) j = false → zX Z l 4 mth_X7_isDrowned 2 [(0, .ref (Λ 2)), (1, .ref (Λ (140 + a))), (2, .ref (Λ (100 + i))), (3, .int (nI j))] [] M 0 0 Q) (fun j hj ih => ?_) ?_ 0 (Nat.zero_le _) ?_
  · intro H
    have hb : sc S 0 ≤ _ := hR.bnd.1.1
    refine zs_iload_n (n := 3) dX7_isDrowned_2 rfl rfl ?_
    refine zs_aload_n (n := 4) dX7_isDrowned_3 rfl rfl ?_
    refine zs_getr (b := (Λ 15)) (n := 7) dX7_isDrowned_4 gf_X7_10 (hR.kd (lvC h3 (by omega))) (hR.pt (lvC h3 (by omega)) rfl (by decide)) rfl ?_
    refine zc_size (c := sc S 0) (n := 10) dX7_isDrowned_7 ml_X7_19 (hR.lP h3) (by simp) (by omega) rfl ?_
    refine zs_icmp_ge (tgt := 73) (n := 13) dX7_isDrowned_10 (by decide) rfl (fun h => absurd h (nI_ge hj (by omega))) (fun _ => ?_)
    refine zs_aload_n (n := 14) dX7_isDrowned_13 rfl rfl ?_
    refine zs_getr (b := (Λ 15)) (n := 17) dX7_isDrowned_14 gf_X7_10 (hR.kd (lvC h3 (by omega))) (hR.pt (lvC h3 (by omega)) rfl (by decide)) rfl ?_
    refine zs_iload_n (n := 18) dX7_isDrowned_17 rfl rfl ?_
    refine zc_getb (c := sc S 0) (b := (Λ (100 + j))) (n := 21) dX7_isDrowned_18 ml_X7_23 (hR.lP h3) hj rfl (by simp) (by omega) rfl ?_
    refine zs_castS (ci := 11) (n := 24) dX7_isDrowned_21 rfl cl_X7_27 (hR.kP hj) rfl ?_
    refine zs_astore (n := 26) dX7_isDrowned_24 (by decide) rfl ?_
    refine zs_aload (n := 28) dX7_isDrowned_26 rfl rfl ?_
    rcases zopt (pl j) with hpl28 | ⟨k28, hpl28⟩
    · refine zs_getN (n := 31) dX7_isDrowned_28 gf_X7_67 (hR.kP hj) (((hP.1 _ hj).1.1).trans (by show (pl j).map _ = _; rw [hpl28]; rfl)) rfl ?_
      refine zs_astoreN (n := 33) dX7_isDrowned_31 (by decide) rfl ?_
      refine zs_aload (n := 35) dX7_isDrowned_33 rfl rfl ?_
      refine zs_aload_n (n := 36) dX7_isDrowned_35 rfl rfl ?_
      refine zs_acmp_eq (tgt := 67) (n := 39) dX7_isDrowned_36 (by decide) rfl (fun h36 => ?_) (fun h36 => ?_)
      · refine zs_iinc (v := (nI (j + 1))) (n := 70) dX7_isDrowned_67 rfl (nI_1 _) (by decide) rfl ?_
        refine zs_goto (tgt := 2) dX7_isDrowned_70 (by decide) ?_
        refine zX.sub (L' := [(0, .ref (Λ 2)), (1, .ref (Λ (140 + a))), (2, .ref (Λ (100 + i))), (3, .int (nI (j + 1)))]) ⟨rfl, rfl, rfl, rfl, trivial⟩ ?_
        refine ih (zany_no H ?_)
        unfold gDr
        first
        | (rw [decide_eq_true (show j = i from by have := (hR.eq (lvP hj) (lvP hi)).mp h36; omega)]; rfl)
        | (simp only [hpl28]; rw [Bool.and_false])
        | (simp only [hpl28]; rw [show decide (¬ gLoud V j i (sT S j k28) ≤ 10 * V (140 + a) 162) = false from decide_eq_false (fun e => e h62), Bool.and_false])
      · refine zs_aloadN (n := 41) dX7_isDrowned_39 rfl rfl ?_
        refine zs_ifnullN (tgt := 67) dX7_isDrowned_41 (by decide) ?_
        refine zs_iinc (v := (nI (j + 1))) (n := 70) dX7_isDrowned_67 rfl (nI_1 _) (by decide) rfl ?_
        refine zs_goto (tgt := 2) dX7_isDrowned_70 (by decide) ?_
        refine zX.sub (L' := [(0, .ref (Λ 2)), (1, .ref (Λ (140 + a))), (2, .ref (Λ (100 + i))), (3, .int (nI (j + 1)))]) ⟨rfl, rfl, rfl, rfl, trivial⟩ ?_
        refine ih (zany_no H ?_)
        unfold gDr
        first
        | (rw [decide_eq_true (show j = i from by have := (hR.eq (lvP hj) (lvP hi)).mp h36; omega)]; rfl)
        | (simp only [hpl28]; rw [Bool.and_false])
        | (simp only [hpl28]; rw [show decide (¬ gLoud V j i (sT S j k28) ≤ 10 * V (140 + a) 162) = false from decide_eq_false (fun e => e h62), Bool.and_false])
    · have hk28 := (hP.1 _ hj).1.2 k28 hpl28
      refine zs_getr (b := (Λ (160 + 8 * j + k28))) (n := 31) dX7_isDrowned_28 gf_X7_67 (hR.kP hj) (((hP.1 _ hj).1.1).trans (by show (pl j).map _ = _; rw [hpl28]; rfl)) rfl ?_
      refine zs_astore (n := 33) dX7_isDrowned_31 (by decide) rfl ?_
      refine zs_aload (n := 35) dX7_isDrowned_33 rfl rfl ?_
      refine zs_aload_n (n := 36) dX7_isDrowned_35 rfl rfl ?_
      refine zs_acmp_eq (tgt := 67) (n := 39) dX7_isDrowned_36 (by decide) rfl (fun h36 => ?_) (fun h36 => ?_)
      · refine zs_iinc (v := (nI (j + 1))) (n := 70) dX7_isDrowned_67 rfl (nI_1 _) (by decide) rfl ?_
        refine zs_goto (tgt := 2) dX7_isDrowned_70 (by decide) ?_
        refine zX.sub (L' := [(0, .ref (Λ 2)), (1, .ref (Λ (140 + a))), (2, .ref (Λ (100 + i))), (3, .int (nI (j + 1)))]) ⟨rfl, rfl, rfl, rfl, trivial⟩ ?_
        refine ih (zany_no H ?_)
        unfold gDr
        first
        | (rw [decide_eq_true (show j = i from by have := (hR.eq (lvP hj) (lvP hi)).mp h36; omega)]; rfl)
        | (simp only [hpl28]; rw [Bool.and_false])
        | (simp only [hpl28]; rw [show decide (¬ gLoud V j i (sT S j k28) ≤ 10 * V (140 + a) 162) = false from decide_eq_false (fun e => e h62), Bool.and_false])
      · refine zs_aload (n := 41) dX7_isDrowned_39 rfl rfl ?_
        refine zs_ifnull (n := 44) dX7_isDrowned_41 rfl ?_
        refine zs_aload (n := 46) dX7_isDrowned_44 rfl rfl ?_
        refine zs_aload_n (n := 47) dX7_isDrowned_46 rfl rfl ?_
        refine zs_aload (n := 49) dX7_isDrowned_47 rfl rfl ?_
        refine zs_getr (b := (Λ (140 + (sT (wV S V) j k28)))) (n := 52) dX7_isDrowned_49 gf_X7_71 (hR.kK hj hk28) (hR.act hj hk28) rfl ?_
        refine zc_V (n := 55) (As := [.ref (Λ (100 + i)), .ref (Λ (140 + (sT (wV S V) j k28)))]) (ci := 11) (mc := 0) (ms := 0) dX7_isDrowned_52 ok_X6_loudnessAt ⟨ml_X7_77, im_X6_loudnessAt, sl_X6_loudnessAt⟩ rfl (hR.kP hj) rfl (Nat.le_of_ble_eq_true rfl) (by simp) (by omega) (Nat.le_refl _) (Nat.le_refl _) rfl rfl (c_loudnessAt hR hj hi (hR.actb hj hk28)) ?_
        refine zs_bipush (v := 10) (n := 57) dX7_isDrowned_55 (by decide) rfl ?_
        refine zs_aload_n (n := 58) dX7_isDrowned_57 rfl rfl ?_
        refine zs_getv (x := (V (140 + a) 162)) (n := 61) dX7_isDrowned_58 gf_X7_81 (hR.kA ha) (hR.iv (lvA ha) (by decide) (by decide)) rfl ?_
        refine zs_imul (n := 62) dX7_isDrowned_61 rfl ?_
        refine zs_icmp_le (tgt := 67) (n := 65) dX7_isDrowned_62 (by decide) rfl (fun h62 => ?_) (fun h62 => ?_)
        · refine zs_iinc (v := (nI (j + 1))) (n := 70) dX7_isDrowned_67 rfl (nI_1 _) (by decide) rfl ?_
          refine zs_goto (tgt := 2) dX7_isDrowned_70 (by decide) ?_
          refine zX.sub (L' := [(0, .ref (Λ 2)), (1, .ref (Λ (140 + a))), (2, .ref (Λ (100 + i))), (3, .int (nI (j + 1)))]) ⟨rfl, rfl, rfl, rfl, trivial⟩ ?_
          refine ih (zany_no H ?_)
          unfold gDr
          first
          | (rw [decide_eq_true (show j = i from by have := (hR.eq (lvP hj) (lvP hi)).mp h36; omega)]; rfl)
          | (simp only [hpl28]; rw [Bool.and_false])
          | (simp only [hpl28]; rw [show decide (¬ gLoud V j i (sT S j k28) ≤ 10 * V (140 + a) 162) = false from decide_eq_false (fun e => e h62), Bool.and_false])
        · refine zs_iconst (v := 1) (n := 66) dX7_isDrowned_65 (by decide) rfl ?_
          refine zs_ireturn dX7_isDrowned_66 ⟨_, rfl, rfl⟩ ?_
          unfold gDrown at hQ
          rw [zany_hit (p := gDr S a i (V, pl, nx)) (by unfold gDr; simp only [hpl28]; rw [decide_eq_false (fun e => h36 (by rw [e])), decide_eq_true h62]; rfl) hj] at hQ
          exact hQ
  · intro H
    have hb : sc S 0 ≤ _ := hR.bnd.1.1
    refine zs_iload_n (n := 3) dX7_isDrowned_2 rfl rfl ?_
    refine zs_aload_n (n := 4) dX7_isDrowned_3 rfl rfl ?_
    refine zs_getr (b := (Λ 15)) (n := 7) dX7_isDrowned_4 gf_X7_10 (hR.kd (lvC h3 (by omega))) (hR.pt (lvC h3 (by omega)) rfl (by decide)) rfl ?_
    refine zc_size (c := sc S 0) (n := 10) dX7_isDrowned_7 ml_X7_19 (hR.lP h3) (by simp) (by omega) rfl ?_
    refine zs_icmp_ge (tgt := 73) (n := 13) dX7_isDrowned_10 (by decide) rfl (fun _ => ?_) (fun h => absurd (nI_le (Nat.le_refl _) (by omega)) h)
    refine zs_iconst (v := 0) (n := 74) dX7_isDrowned_73 (by decide) rfl ?_
    refine zs_ireturn dX7_isDrowned_74 ⟨_, rfl, rfl⟩ ?_
    unfold gDrown at hQ
    rw [H] at hQ
    exact hQ
  · rfl
theorem c_hasPlayingNearer {i : Nat} {x : Int32} (hR : zRp Z Λ (wV S V) M) (hP : zPl Λ (wV S V, pl, nx) M) (h3 : sc S 3 = 1)(hi : i < sc S 0) : zD Z l 3 mth_X7_hasPlayingNearer [.ref (Λ 2), .ref (Λ (100 + i)), .int x] M 0 0 (some (.int (zb (gNear S i x (V, pl, nx))))) M := by
  intro Q hQ
  show zX Z l 3 mth_X7_hasPlayingNearer 0 [(0, .ref (Λ 2)), (1, .ref (Λ (100 + i))), (2, .int x)] [] M 0 0 Q
  refine zs_iconst (v := 0) (n := 1) dX7_hasPlayingNearer_0 (by decide) rfl ?_
  refine zs_istore_n (n := 2) dX7_hasPlayingNearer_1 (by decide) rfl ?_
  refine zX.sub (L' := [(0, .ref (Λ 2)), (1, .ref (Λ (100 + i))), (2, .int x), (3, .int (nI 0))]) ⟨rfl, rfl, rfl, rfl, trivial⟩ ?_
  refine zloop (n := sc S 0) (X := fun j => zany (gNr i x (V, pl, nx)) j = false → zX Z l 3 mth_X7_hasPlayingNearer 2 [(0, .ref (Λ 2)), (1, .ref (Λ (100 + i))), (2, .int x), (3, .int (nI j))] [] M 0 0 Q) (fun j hj ih => ?_) ?_ 0 (Nat.zero_le _) ?_
  · intro H
    have hb : sc S 0 ≤ _ := hR.bnd.1.1
    refine zs_iload_n (n := 3) dX7_hasPlayingNearer_2 rfl rfl ?_
    refine zs_aload_n (n := 4) dX7_hasPlayingNearer_3 rfl rfl ?_
    refine zs_getr (b := (Λ 15)) (n := 7) dX7_hasPlayingNearer_4 gf_X7_10 (hR.kd (lvC h3 (by omega))) (hR.pt (lvC h3 (by omega)) rfl (by decide)) rfl ?_
    refine zc_size (c := sc S 0) (n := 10) dX7_hasPlayingNearer_7 ml_X7_19 (hR.lP h3) (by simp) (by omega) rfl ?_
    refine zs_icmp_ge (tgt := 58) (n := 13) dX7_hasPlayingNearer_10 (by decide) rfl (fun h => absurd h (nI_ge hj (by omega))) (fun _ => ?_)
    refine zs_aload_n (n := 14) dX7_hasPlayingNearer_13 rfl rfl ?_
    refine zs_getr (b := (Λ 15)) (n := 17) dX7_hasPlayingNearer_14 gf_X7_10 (hR.kd (lvC h3 (by omega))) (hR.pt (lvC h3 (by omega)) rfl (by decide)) rfl ?_
    refine zs_iload_n (n := 18) dX7_hasPlayingNearer_17 rfl rfl ?_
    refine zc_getb (c := sc S 0) (b := (Λ (100 + j))) (n := 21) dX7_hasPlayingNearer_18 ml_X7_23 (hR.lP h3) hj rfl (by simp) (by omega) rfl ?_
    refine zs_castS (ci := 11) (n := 24) dX7_hasPlayingNearer_21 rfl cl_X7_27 (hR.kP hj) rfl ?_
    refine zs_astore (n := 26) dX7_hasPlayingNearer_24 (by decide) rfl ?_
    refine zs_aload (n := 28) dX7_hasPlayingNearer_26 rfl rfl ?_
    refine zs_aload_n (n := 29) dX7_hasPlayingNearer_28 rfl rfl ?_
    refine zs_acmp_eq (tgt := 52) (n := 32) dX7_hasPlayingNearer_29 (by decide) rfl (fun h29 => ?_) (fun h29 => ?_)
    · refine zs_iinc (v := (nI (j + 1))) (n := 55) dX7_hasPlayingNearer_52 rfl (nI_1 _) (by decide) rfl ?_
      refine zs_goto (tgt := 2) dX7_hasPlayingNearer_55 (by decide) ?_
      refine zX.sub (L' := [(0, .ref (Λ 2)), (1, .ref (Λ (100 + i))), (2, .int x), (3, .int (nI (j + 1)))]) ⟨rfl, rfl, rfl, rfl, trivial⟩ ?_
      refine ih (zany_no H ?_)
      unfold gNr
      first
      | (rw [decide_eq_true (show j = i from by have := (hR.eq (lvP hj) (lvP hi)).mp h29; omega)]; rfl)
      | (simp only [hpl34]; rw [Bool.and_false])
      | (simp only [hpl34]; rw [show decide (¬ x ≤ gYd V j i) = false from decide_eq_false (fun e => e h47), Bool.and_false])
    · refine zs_aload (n := 34) dX7_hasPlayingNearer_32 rfl rfl ?_
      rcases zopt (pl j) with hpl34 | ⟨k34, hpl34⟩
      · refine zs_getN (n := 37) dX7_hasPlayingNearer_34 gf_X7_67 (hR.kP hj) (((hP.1 _ hj).1.1).trans (by show (pl j).map _ = _; rw [hpl34]; rfl)) rfl ?_
        refine zs_ifnullN (tgt := 52) dX7_hasPlayingNearer_37 (by decide) ?_
        refine zs_iinc (v := (nI (j + 1))) (n := 55) dX7_hasPlayingNearer_52 rfl (nI_1 _) (by decide) rfl ?_
        refine zs_goto (tgt := 2) dX7_hasPlayingNearer_55 (by decide) ?_
        refine zX.sub (L' := [(0, .ref (Λ 2)), (1, .ref (Λ (100 + i))), (2, .int x), (3, .int (nI (j + 1)))]) ⟨rfl, rfl, rfl, rfl, trivial⟩ ?_
        refine ih (zany_no H ?_)
        unfold gNr
        first
        | (rw [decide_eq_true (show j = i from by have := (hR.eq (lvP hj) (lvP hi)).mp h29; omega)]; rfl)
        | (simp only [hpl34]; rw [Bool.and_false])
        | (simp only [hpl34]; rw [show decide (¬ x ≤ gYd V j i) = false from decide_eq_false (fun e => e h47), Bool.and_false])
      · have hk34 := (hP.1 _ hj).1.2 k34 hpl34
        refine zs_getr (b := (Λ (160 + 8 * j + k34))) (n := 37) dX7_hasPlayingNearer_34 gf_X7_67 (hR.kP hj) (((hP.1 _ hj).1.1).trans (by show (pl j).map _ = _; rw [hpl34]; rfl)) rfl ?_
        refine zs_ifnull (n := 40) dX7_hasPlayingNearer_37 rfl ?_
        refine zs_aload (n := 42) dX7_hasPlayingNearer_40 rfl rfl ?_
        refine zs_aload_n (n := 43) dX7_hasPlayingNearer_42 rfl rfl ?_
        refine zc_V (n := 46) (As := [.ref (Λ (100 + i))]) (ci := 11) (mc := 0) (ms := 0) dX7_hasPlayingNearer_43 ok_X6_yardsTo ⟨ml_X7_84, im_X6_yardsTo, sl_X6_yardsTo⟩ rfl (hR.kP hj) rfl (Nat.le_of_ble_eq_true rfl) (by simp) (by omega) (Nat.le_refl _) (Nat.le_refl _) rfl rfl (c_yardsTo hR hj hi) ?_
        refine zs_iload_n (n := 47) dX7_hasPlayingNearer_46 rfl rfl ?_
        refine zs_icmp_ge (tgt := 52) (n := 50) dX7_hasPlayingNearer_47 (by decide) rfl (fun h47 => ?_) (fun h47 => ?_)
        · refine zs_iinc (v := (nI (j + 1))) (n := 55) dX7_hasPlayingNearer_52 rfl (nI_1 _) (by decide) rfl ?_
          refine zs_goto (tgt := 2) dX7_hasPlayingNearer_55 (by decide) ?_
          refine zX.sub (L' := [(0, .ref (Λ 2)), (1, .ref (Λ (100 + i))), (2, .int x), (3, .int (nI (j + 1)))]) ⟨rfl, rfl, rfl, rfl, trivial⟩ ?_
          refine ih (zany_no H ?_)
          unfold gNr
          first
          | (rw [decide_eq_true (show j = i from by have := (hR.eq (lvP hj) (lvP hi)).mp h29; omega)]; rfl)
          | (simp only [hpl34]; rw [Bool.and_false])
          | (simp only [hpl34]; rw [show decide (¬ x ≤ gYd V j i) = false from decide_eq_false (fun e => e h47), Bool.and_false])
        · refine zs_iconst (v := 1) (n := 51) dX7_hasPlayingNearer_50 (by decide) rfl ?_
          refine zs_ireturn dX7_hasPlayingNearer_51 ⟨_, rfl, rfl⟩ ?_
          unfold gNear at hQ
          rw [zany_hit (p := gNr i x (V, pl, nx)) (by unfold gNr; simp only [hpl34]; rw [decide_eq_false (fun e => h29 (by rw [e])), decide_eq_true h47]; rfl) hj] at hQ
          exact hQ
  · intro H
    have hb : sc S 0 ≤ _ := hR.bnd.1.1
    refine zs_iload_n (n := 3) dX7_hasPlayingNearer_2 rfl rfl ?_
    refine zs_aload_n (n := 4) dX7_hasPlayingNearer_3 rfl rfl ?_
    refine zs_getr (b := (Λ 15)) (n := 7) dX7_hasPlayingNearer_4 gf_X7_10 (hR.kd (lvC h3 (by omega))) (hR.pt (lvC h3 (by omega)) rfl (by decide)) rfl ?_
    refine zc_size (c := sc S 0) (n := 10) dX7_hasPlayingNearer_7 ml_X7_19 (hR.lP h3) (by simp) (by omega) rfl ?_
    refine zs_icmp_ge (tgt := 58) (n := 13) dX7_hasPlayingNearer_10 (by decide) rfl (fun _ => ?_) (fun h => absurd (nI_le (Nat.le_refl _) (by omega)) h)
    refine zs_iconst (v := 0) (n := 59) dX7_hasPlayingNearer_58 (by decide) rfl ?_
    refine zs_ireturn dX7_hasPlayingNearer_59 ⟨_, rfl, rfl⟩ ?_
    unfold gNear at hQ
    rw [H] at hQ
    exact hQ
  · rfl
def gPart (a : Nat) (g : Int32) (V : Nat → Nat → Int32) : Int32 := if fBc (V (140 + a) 168) ≤ 0 then g else g / fBc (V (140 + a) 168)
def gShareL (a : Nat) (x : Int32) (j : Nat) (V : Nat → Nat → Int32) : Nat → Nat → Int32 := zit (fun i V => if V (140 + a) 168 &&& zbit (nI i) = 0 then V else u2 V (140 + i) 167 (V (140 + i) 167 + x)) j V
def gShare (S : zSt) (a : Nat) (g : Int32) (V : Nat → Nat → Int32) : Nat → Nat → Int32 := u2 (gShareL a (gPart a g V) (sc S 1) V) (140 + a) 167 (gShareL a (gPart a g V) (sc S 1) V (140 + a) 167 + (g - gPart a g V * fBc (V (140 + a) 168)))
theorem c_share {a : Nat} {g : Int32} (hR : zRp Z Λ (wV S V) M) (hP : zPl Λ (wV S V, pl, nx) M) (h3 : sc S 3 = 1)(ha : a < sc S 1) : zG Z l 3 mth_X7_share [.ref (Λ 2), .int g, .ref (Λ (140 + a))] M 0 0 none (zRq Z Λ S (gShare S a g V, pl, nx)) := by
  intro Q hQ
  show zX Z l 3 mth_X7_share 0 [(0, .ref (Λ 2)), (1, .int g), (2, .ref (Λ (140 + a)))] [] M 0 0 Q
  refine zs_aload_n (n := 1) dX7_share_0 rfl rfl ?_
  refine zs_getv (x := (V (140 + a) 168)) (n := 4) dX7_share_1 gf_X7_42 (hR.kA ha) (hR.iv (lvA ha) (by decide) (by decide)) rfl ?_
  refine zc_S (n := 7) (As := [.int (V (140 + a) 168)]) (mc := 0) (ms := 0) dX7_share_4 ok_J6_bitCount_0f7a4 ⟨ml_X7_47, st_J6_bitCount_0f7a4⟩ rfl (Nat.le_of_ble_eq_true rfl) (by simp) (by omega) (Nat.le_refl _) (Nat.le_refl _) rfl rfl c_bitCount ?_
  refine zs_istore_n (n := 8) dX7_share_7 (by decide) rfl ?_
  refine zs_iload_n (n := 9) dX7_share_8 rfl rfl ?_
  refine zs_if_le (tgt := 18) (n := 12) dX7_share_9 (by decide) rfl (fun h9 => ?_) (fun h9 => ?_)
  · refine zs_iload_n (n := 19) dX7_share_18 rfl rfl ?_
    refine zX.top (show g = gPart a g V from by unfold gPart; first | rw [if_pos h9] | rw [if_neg h9]) ?_
    refine zs_istore (n := 21) dX7_share_19 (by decide) rfl ?_
    refine zs_iconst (v := 0) (n := 22) dX7_share_21 (by decide) rfl ?_
    refine zs_istore (n := 24) dX7_share_22 (by decide) rfl ?_
    refine zX.sub (L' := [(0, .ref (Λ 2)), (1, .int g), (2, .ref (Λ (140 + a))), (3, .int (fBc (V (140 + a) 168))), (4, .int (gPart a g V)), (5, .int (nI 0))]) ⟨rfl, rfl, rfl, rfl, rfl, rfl, trivial⟩ ?_
    refine zloop (n := sc S 1) (X := fun j => ∀ M, zRq Z Λ S (gShareL a (gPart a g V) j V, pl, nx) M → zX Z l 3 mth_X7_share 24 [(0, .ref (Λ 2)), (1, .int g), (2, .ref (Λ (140 + a))), (3, .int (fBc (V (140 + a) 168))), (4, .int (gPart a g V)), (5, .int (nI j))] [] M 0 0 Q) (fun j hj ih => ?_) ?_ 0 (Nat.zero_le _) M ?_
    · intro M hR9
      have hR := hR9.1
      have hP := hR9.2
      have hb : sc S 1 ≤ 8 := hR.bnd.1.2.1
      refine zs_iload (n := 26) dX7_share_24 rfl rfl ?_
      refine zs_aload_n (n := 27) dX7_share_26 rfl rfl ?_
      refine zs_getr (b := (Λ 17)) (n := 30) dX7_share_27 gf_X7_16 (hR.kd (lvC h3 (by omega))) (hR.pt (lvC h3 (by omega)) rfl (by decide)) rfl ?_
      refine zc_size (c := sc S 1) (n := 33) dX7_share_30 ml_X7_19 (hR.lA h3) (by simp) (by omega) rfl ?_
      refine zs_icmp_ge (tgt := 76) (n := 36) dX7_share_33 (by decide) rfl (fun h => absurd h (nI_ge hj (by omega))) (fun _ => ?_)
      refine zs_aload_n (n := 37) dX7_share_36 rfl rfl ?_
      refine zs_getv (x := ((gShareL a (gPart a g V) j V) (140 + a) 168)) (n := 40) dX7_share_37 gf_X7_42 (hR.kA ha) (hR.iv (lvA ha) (by decide) (by decide)) rfl ?_
      refine zs_iconst (v := 1) (n := 41) dX7_share_40 (by decide) rfl ?_
      refine zs_iload (n := 43) dX7_share_41 rfl rfl ?_
      refine zs_ishl (n := 44) dX7_share_43 rfl ?_
      refine zs_iand (n := 45) dX7_share_44 rfl ?_
      refine zs_if_eq (tgt := 70) (n := 48) dX7_share_45 (by decide) rfl (fun h45 => ?_) (fun h45 => ?_)
      · refine zs_iinc (v := (nI (j + 1))) (n := 73) dX7_share_70 rfl (nI_1 _) (by decide) rfl ?_
        refine zs_goto (tgt := 24) dX7_share_73 (by decide) ?_
        refine zX.sub (L' := [(0, .ref (Λ 2)), (1, .int g), (2, .ref (Λ (140 + a))), (3, .int (fBc (V (140 + a) 168))), (4, .int (gPart a g V)), (5, .int (nI (j + 1)))]) ⟨rfl, rfl, rfl, rfl, rfl, rfl, trivial⟩ ?_
        refine ih M ?_
        rw [show gShareL a (gPart a g V) (j + 1) V = (if gShareL a (gPart a g V) j V (140 + a) 168 &&& zbit (nI j) = 0 then gShareL a (gPart a g V) j V else u2 (gShareL a (gPart a g V) j V) (140 + j) 167 (gShareL a (gPart a g V) j V (140 + j) 167 + gPart a g V)) from rfl]
        first | (rw [if_pos h45]; exact ⟨hR, hP⟩) | (rw [if_neg h45]; exact ⟨hR, hP⟩)
      · refine zs_aload_n (n := 49) dX7_share_48 rfl rfl ?_
        refine zs_getr (b := (Λ 17)) (n := 52) dX7_share_49 gf_X7_16 (hR.kd (lvC h3 (by omega))) (hR.pt (lvC h3 (by omega)) rfl (by decide)) rfl ?_
        refine zs_iload (n := 54) dX7_share_52 rfl rfl ?_
        refine zc_getb (c := sc S 1) (b := (Λ (140 + j))) (n := 57) dX7_share_54 ml_X7_23 (hR.lA h3) hj rfl (by simp) (by omega) rfl ?_
        refine zs_castS (ci := 5) (n := 60) dX7_share_57 rfl cl_X7_43 (hR.kA hj) rfl ?_
        refine zs_dup (n := 61) dX7_share_60 rfl rfl ?_
        refine zs_getv (x := ((gShareL a (gPart a g V) j V) (140 + j) 167)) (n := 64) dX7_share_61 gf_X7_53 (hR.kA hj) (hR.iv (lvA hj) (by decide) (by decide)) rfl ?_
        refine zs_iload (n := 66) dX7_share_64 rfl rfl ?_
        refine zs_iadd (n := 67) dX7_share_66 rfl ?_
        refine zw_i (r := (140 + j)) (n := 70) dX7_share_67 pf_X7_share_53 hR (lvA hj) (hR.kA hj) ⟨rfl, rfl⟩ (by decide) rfl ?_
        intro M hR hv
        have hR : zRp Z Λ (wV S (u2 (gShareL a (gPart a g V) j V) (140 + j) 167 (((gShareL a (gPart a g V) j V) (140 + j) 167) + (gPart a g V)))) M := hR
        have hP : zPl Λ ((wV S (u2 (gShareL a (gPart a g V) j V) (140 + j) 167 (((gShareL a (gPart a g V) j V) (140 + j) 167) + (gPart a g V)))), pl, nx) M := zPl.of (T := (wV S (gShareL a (gPart a g V) j V), pl, nx)) hP hv rfl rfl (fun _ => rfl) (fun _ => rfl)
        refine zs_iinc (v := (nI (j + 1))) (n := 73) dX7_share_70 rfl (nI_1 _) (by decide) rfl ?_
        refine zs_goto (tgt := 24) dX7_share_73 (by decide) ?_
        refine zX.sub (L' := [(0, .ref (Λ 2)), (1, .int g), (2, .ref (Λ (140 + a))), (3, .int (fBc (V (140 + a) 168))), (4, .int (gPart a g V)), (5, .int (nI (j + 1)))]) ⟨rfl, rfl, rfl, rfl, rfl, rfl, trivial⟩ ?_
        refine ih M ?_
        rw [show gShareL a (gPart a g V) (j + 1) V = (if gShareL a (gPart a g V) j V (140 + a) 168 &&& zbit (nI j) = 0 then gShareL a (gPart a g V) j V else u2 (gShareL a (gPart a g V) j V) (140 + j) 167 (gShareL a (gPart a g V) j V (140 + j) 167 + gPart a g V)) from rfl]
        first | (rw [if_pos h45]; exact ⟨hR, hP⟩) | (rw [if_neg h45]; exact ⟨hR, hP⟩)
    · intro M hR9
      have hR := hR9.1
      have hP := hR9.2
      have hb : sc S 1 ≤ 8 := hR.bnd.1.2.1
      refine zs_iload (n := 26) dX7_share_24 rfl rfl ?_
      refine zs_aload_n (n := 27) dX7_share_26 rfl rfl ?_
      refine zs_getr (b := (Λ 17)) (n := 30) dX7_share_27 gf_X7_16 (hR.kd (lvC h3 (by omega))) (hR.pt (lvC h3 (by omega)) rfl (by decide)) rfl ?_
      refine zc_size (c := sc S 1) (n := 33) dX7_share_30 ml_X7_19 (hR.lA h3) (by simp) (by omega) rfl ?_
      refine zs_icmp_ge (tgt := 76) (n := 36) dX7_share_33 (by decide) rfl (fun _ => ?_) (fun h => absurd (nI_le (Nat.le_refl _) (by omega)) h)
      refine zs_aload_n (n := 77) dX7_share_76 rfl rfl ?_
      refine zs_dup (n := 78) dX7_share_77 rfl rfl ?_
      refine zs_getv (x := ((gShareL a (gPart a g V) (sc S 1) V) (140 + a) 167)) (n := 81) dX7_share_78 gf_X7_53 (hR.kA ha) (hR.iv (lvA ha) (by decide) (by decide)) rfl ?_
      refine zs_iload_n (n := 82) dX7_share_81 rfl rfl ?_
      refine zs_iload (n := 84) dX7_share_82 rfl rfl ?_
      refine zs_iload_n (n := 85) dX7_share_84 rfl rfl ?_
      refine zs_imul (n := 86) dX7_share_85 rfl ?_
      refine zs_isub (n := 87) dX7_share_86 rfl ?_
      refine zs_iadd (n := 88) dX7_share_87 rfl ?_
      refine zw_i (r := (140 + a)) (n := 91) dX7_share_88 pf_X7_share_53 hR (lvA ha) (hR.kA ha) ⟨rfl, rfl⟩ (by decide) rfl ?_
      intro M hR hv
      have hR : zRp Z Λ (wV S (u2 (gShareL a (gPart a g V) (sc S 1) V) (140 + a) 167 (((gShareL a (gPart a g V) (sc S 1) V) (140 + a) 167) + (g - ((gPart a g V) * (fBc (V (140 + a) 168))))))) M := hR
      have hP : zPl Λ ((wV S (u2 (gShareL a (gPart a g V) (sc S 1) V) (140 + a) 167 (((gShareL a (gPart a g V) (sc S 1) V) (140 + a) 167) + (g - ((gPart a g V) * (fBc (V (140 + a) 168))))))), pl, nx) M := zPl.of (T := (wV S (gShareL a (gPart a g V) (sc S 1) V), pl, nx)) hP hv rfl rfl (fun _ => rfl) (fun _ => rfl)
      refine zs_return dX7_share_91 rfl ?_
      exact hQ _ ⟨hR, hP⟩
    · exact ⟨hR, hP⟩
  · refine zs_iload_n (n := 13) dX7_share_12 rfl rfl ?_
    refine zs_iload_n (n := 14) dX7_share_13 rfl rfl ?_
    refine zs_idiv (n := 15) dX7_share_14 (fun e => h9 (by rw [e]; exact Int32.le_refl 0)) rfl ?_
    refine zs_goto (tgt := 19) dX7_share_15 (by decide) ?_
    refine zX.top (show (g / (fBc (V (140 + a) 168))) = gPart a g V from by unfold gPart; first | rw [if_pos h9] | rw [if_neg h9]) ?_
    refine zs_istore (n := 21) dX7_share_19 (by decide) rfl ?_
    refine zs_iconst (v := 0) (n := 22) dX7_share_21 (by decide) rfl ?_
    refine zs_istore (n := 24) dX7_share_22 (by decide) rfl ?_
    refine zX.sub (L' := [(0, .ref (Λ 2)), (1, .int g), (2, .ref (Λ (140 + a))), (3, .int (fBc (V (140 + a) 168))), (4, .int (gPart a g V)), (5, .int (nI 0))]) ⟨rfl, rfl, rfl, rfl, rfl, rfl, trivial⟩ ?_
    refine zloop (n := sc S 1) (X := fun j => ∀ M, zRq Z Λ S (gShareL a (gPart a g V) j V, pl, nx) M → zX Z l 3 mth_X7_share 24 [(0, .ref (Λ 2)), (1, .int g), (2, .ref (Λ (140 + a))), (3, .int (fBc (V (140 + a) 168))), (4, .int (gPart a g V)), (5, .int (nI j))] [] M 0 0 Q) (fun j hj ih => ?_) ?_ 0 (Nat.zero_le _) M ?_
    · intro M hR9
      have hR := hR9.1
      have hP := hR9.2
      have hb : sc S 1 ≤ 8 := hR.bnd.1.2.1
      refine zs_iload (n := 26) dX7_share_24 rfl rfl ?_
      refine zs_aload_n (n := 27) dX7_share_26 rfl rfl ?_
      refine zs_getr (b := (Λ 17)) (n := 30) dX7_share_27 gf_X7_16 (hR.kd (lvC h3 (by omega))) (hR.pt (lvC h3 (by omega)) rfl (by decide)) rfl ?_
      refine zc_size (c := sc S 1) (n := 33) dX7_share_30 ml_X7_19 (hR.lA h3) (by simp) (by omega) rfl ?_
      refine zs_icmp_ge (tgt := 76) (n := 36) dX7_share_33 (by decide) rfl (fun h => absurd h (nI_ge hj (by omega))) (fun _ => ?_)
      refine zs_aload_n (n := 37) dX7_share_36 rfl rfl ?_
      refine zs_getv (x := ((gShareL a (gPart a g V) j V) (140 + a) 168)) (n := 40) dX7_share_37 gf_X7_42 (hR.kA ha) (hR.iv (lvA ha) (by decide) (by decide)) rfl ?_
      refine zs_iconst (v := 1) (n := 41) dX7_share_40 (by decide) rfl ?_
      refine zs_iload (n := 43) dX7_share_41 rfl rfl ?_
      refine zs_ishl (n := 44) dX7_share_43 rfl ?_
      refine zs_iand (n := 45) dX7_share_44 rfl ?_
      refine zs_if_eq (tgt := 70) (n := 48) dX7_share_45 (by decide) rfl (fun h45 => ?_) (fun h45 => ?_)
      · refine zs_iinc (v := (nI (j + 1))) (n := 73) dX7_share_70 rfl (nI_1 _) (by decide) rfl ?_
        refine zs_goto (tgt := 24) dX7_share_73 (by decide) ?_
        refine zX.sub (L' := [(0, .ref (Λ 2)), (1, .int g), (2, .ref (Λ (140 + a))), (3, .int (fBc (V (140 + a) 168))), (4, .int (gPart a g V)), (5, .int (nI (j + 1)))]) ⟨rfl, rfl, rfl, rfl, rfl, rfl, trivial⟩ ?_
        refine ih M ?_
        rw [show gShareL a (gPart a g V) (j + 1) V = (if gShareL a (gPart a g V) j V (140 + a) 168 &&& zbit (nI j) = 0 then gShareL a (gPart a g V) j V else u2 (gShareL a (gPart a g V) j V) (140 + j) 167 (gShareL a (gPart a g V) j V (140 + j) 167 + gPart a g V)) from rfl]
        first | (rw [if_pos h45]; exact ⟨hR, hP⟩) | (rw [if_neg h45]; exact ⟨hR, hP⟩)
      · refine zs_aload_n (n := 49) dX7_share_48 rfl rfl ?_
        refine zs_getr (b := (Λ 17)) (n := 52) dX7_share_49 gf_X7_16 (hR.kd (lvC h3 (by omega))) (hR.pt (lvC h3 (by omega)) rfl (by decide)) rfl ?_
        refine zs_iload (n := 54) dX7_share_52 rfl rfl ?_
        refine zc_getb (c := sc S 1) (b := (Λ (140 + j))) (n := 57) dX7_share_54 ml_X7_23 (hR.lA h3) hj rfl (by simp) (by omega) rfl ?_
        refine zs_castS (ci := 5) (n := 60) dX7_share_57 rfl cl_X7_43 (hR.kA hj) rfl ?_
        refine zs_dup (n := 61) dX7_share_60 rfl rfl ?_
        refine zs_getv (x := ((gShareL a (gPart a g V) j V) (140 + j) 167)) (n := 64) dX7_share_61 gf_X7_53 (hR.kA hj) (hR.iv (lvA hj) (by decide) (by decide)) rfl ?_
        refine zs_iload (n := 66) dX7_share_64 rfl rfl ?_
        refine zs_iadd (n := 67) dX7_share_66 rfl ?_
        refine zw_i (r := (140 + j)) (n := 70) dX7_share_67 pf_X7_share_53 hR (lvA hj) (hR.kA hj) ⟨rfl, rfl⟩ (by decide) rfl ?_
        intro M hR hv
        have hR : zRp Z Λ (wV S (u2 (gShareL a (gPart a g V) j V) (140 + j) 167 (((gShareL a (gPart a g V) j V) (140 + j) 167) + (gPart a g V)))) M := hR
        have hP : zPl Λ ((wV S (u2 (gShareL a (gPart a g V) j V) (140 + j) 167 (((gShareL a (gPart a g V) j V) (140 + j) 167) + (gPart a g V)))), pl, nx) M := zPl.of (T := (wV S (gShareL a (gPart a g V) j V), pl, nx)) hP hv rfl rfl (fun _ => rfl) (fun _ => rfl)
        refine zs_iinc (v := (nI (j + 1))) (n := 73) dX7_share_70 rfl (nI_1 _) (by decide) rfl ?_
        refine zs_goto (tgt := 24) dX7_share_73 (by decide) ?_
        refine zX.sub (L' := [(0, .ref (Λ 2)), (1, .int g), (2, .ref (Λ (140 + a))), (3, .int (fBc (V (140 + a) 168))), (4, .int (gPart a g V)), (5, .int (nI (j + 1)))]) ⟨rfl, rfl, rfl, rfl, rfl, rfl, trivial⟩ ?_
        refine ih M ?_
        rw [show gShareL a (gPart a g V) (j + 1) V = (if gShareL a (gPart a g V) j V (140 + a) 168 &&& zbit (nI j) = 0 then gShareL a (gPart a g V) j V else u2 (gShareL a (gPart a g V) j V) (140 + j) 167 (gShareL a (gPart a g V) j V (140 + j) 167 + gPart a g V)) from rfl]
        first | (rw [if_pos h45]; exact ⟨hR, hP⟩) | (rw [if_neg h45]; exact ⟨hR, hP⟩)
    · intro M hR9
      have hR := hR9.1
      have hP := hR9.2
      have hb : sc S 1 ≤ 8 := hR.bnd.1.2.1
      refine zs_iload (n := 26) dX7_share_24 rfl rfl ?_
      refine zs_aload_n (n := 27) dX7_share_26 rfl rfl ?_
      refine zs_getr (b := (Λ 17)) (n := 30) dX7_share_27 gf_X7_16 (hR.kd (lvC h3 (by omega))) (hR.pt (lvC h3 (by omega)) rfl (by decide)) rfl ?_
      refine zc_size (c := sc S 1) (n := 33) dX7_share_30 ml_X7_19 (hR.lA h3) (by simp) (by omega) rfl ?_
      refine zs_icmp_ge (tgt := 76) (n := 36) dX7_share_33 (by decide) rfl (fun _ => ?_) (fun h => absurd (nI_le (Nat.le_refl _) (by omega)) h)
      refine zs_aload_n (n := 77) dX7_share_76 rfl rfl ?_
      refine zs_dup (n := 78) dX7_share_77 rfl rfl ?_
      refine zs_getv (x := ((gShareL a (gPart a g V) (sc S 1) V) (140 + a) 167)) (n := 81) dX7_share_78 gf_X7_53 (hR.kA ha) (hR.iv (lvA ha) (by decide) (by decide)) rfl ?_
      refine zs_iload_n (n := 82) dX7_share_81 rfl rfl ?_
      refine zs_iload (n := 84) dX7_share_82 rfl rfl ?_
      refine zs_iload_n (n := 85) dX7_share_84 rfl rfl ?_
      refine zs_imul (n := 86) dX7_share_85 rfl ?_
      refine zs_isub (n := 87) dX7_share_86 rfl ?_
      refine zs_iadd (n := 88) dX7_share_87 rfl ?_
      refine zw_i (r := (140 + a)) (n := 91) dX7_share_88 pf_X7_share_53 hR (lvA ha) (hR.kA ha) ⟨rfl, rfl⟩ (by decide) rfl ?_
      intro M hR hv
      have hR : zRp Z Λ (wV S (u2 (gShareL a (gPart a g V) (sc S 1) V) (140 + a) 167 (((gShareL a (gPart a g V) (sc S 1) V) (140 + a) 167) + (g - ((gPart a g V) * (fBc (V (140 + a) 168))))))) M := hR
      have hP : zPl Λ ((wV S (u2 (gShareL a (gPart a g V) (sc S 1) V) (140 + a) 167 (((gShareL a (gPart a g V) (sc S 1) V) (140 + a) 167) + (g - ((gPart a g V) * (fBc (V (140 + a) 168))))))), pl, nx) M := zPl.of (T := (wV S (gShareL a (gPart a g V) (sc S 1) V), pl, nx)) hP hv rfl rfl (fun _ => rfl) (fun _ => rfl)
      refine zs_return dX7_share_91 rfl ?_
      exact hQ _ ⟨hR, hP⟩
    · exact ⟨hR, hP⟩
end ZPLAY2
