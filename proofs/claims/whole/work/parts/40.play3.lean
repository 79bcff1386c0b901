/-! PLAY, at last: fines, visits, gathering, the day -/
section ZPLAY3
variable {Z : zPar} {l : Launch} {Λ : Nat → Nat} {S : zSt} {M : zMem} {V : Nat → Nat → Int32} {pl : Nat → Option Nat} {nx : Nat → Nat}
theorem m_fine {v : Nat} {w x : Int32} (hK : mK M v = 24) (hw : zCh w) (hy : zCh (vI M v 450)) : zD Z l 0 mth_X9_fine [.ref v, .int w, .int x] M 0 0 none (sI (sI M v 450 (if vI M v 450 = 45 then w else vI M v 450)) v 451 (vI M v 451 + x)) := by
  intro Q hQ
  show zX Z l 0 mth_X9_fine 0 [(0, .ref v), (1, .int w), (2, .int x)] [] M 0 0 Q
  refine zs_aload_n (n := 1) dX9_fine_0 rfl rfl ?_
  refine zs_aload_n (n := 2) dX9_fine_1 rfl rfl ?_
  refine zs_geti (n := 5) dX9_fine_2 gf_X9_17 (by assumption) rfl ?_
  refine zs_bipush (v := 45) (n := 7) dX9_fine_5 (by decide) rfl ?_
  refine zs_icmp_ne (tgt := 14) (n := 10) dX9_fine_7 (by decide) rfl (fun h7 => ?_) (fun h7 => ?_)
  · refine zs_aload_n (n := 15) dX9_fine_14 rfl rfl ?_
    refine zs_geti (n := 18) dX9_fine_15 gf_X9_17 (by assumption) rfl ?_
    refine zs_puti (n := 21) dX9_fine_18 pf_X9_fine_17 (by assumption) (by first | exact hw | exact hy) rfl ?_
    refine zs_aload_n (n := 22) dX9_fine_21 rfl rfl ?_
    refine zs_dup (n := 23) dX9_fine_22 rfl rfl ?_
    refine zs_geti (n := 26) dX9_fine_23 gf_X9_21 (by assumption) rfl ?_
    refine zs_iload_n (n := 27) dX9_fine_26 rfl rfl ?_
    refine zs_iadd (n := 28) dX9_fine_27 rfl ?_
    refine zs_puti (n := 31) dX9_fine_28 pf_X9_fine_21 (by assumption) ⟨rfl, rfl⟩ rfl ?_
    refine zs_return dX9_fine_31 rfl ?_
    first | (rw [if_pos h7] at hQ; exact hQ) | (rw [if_neg h7] at hQ; exact hQ)
  · refine zs_iload_n (n := 11) dX9_fine_10 rfl rfl ?_
    refine zs_goto (tgt := 18) dX9_fine_11 (by decide) ?_
    refine zs_puti (n := 21) dX9_fine_18 pf_X9_fine_17 (by assumption) (by first | exact hw | exact hy) rfl ?_
    refine zs_aload_n (n := 22) dX9_fine_21 rfl rfl ?_
    refine zs_dup (n := 23) dX9_fine_22 rfl rfl ?_
    refine zs_geti (n := 26) dX9_fine_23 gf_X9_21 (by assumption) rfl ?_
    refine zs_iload_n (n := 27) dX9_fine_26 rfl rfl ?_
    refine zs_iadd (n := 28) dX9_fine_27 rfl ?_
    refine zs_puti (n := 31) dX9_fine_28 pf_X9_fine_21 (by assumption) ⟨rfl, rfl⟩ rfl ?_
    refine zs_return dX9_fine_31 rfl ?_
    first | (rw [if_pos h7] at hQ; exact hQ) | (rw [if_neg h7] at hQ; exact hQ)
theorem c_fine {j : Nat} {w x : Int32} (hR : zRp Z Λ (wV S V) M) (hP : zPl Λ (wV S V, pl, nx) M) (hj : j < sc S 2) (hw : zCh w) : zG Z l 0 mth_X9_fine [.ref (Λ (150 + j)), .int w, .int x] M 0 0 none (zRq Z Λ S (fFine V (150 + j) w x, pl, nx)) := by
  intro Q hQ
  have hl : zlv (sc S) (150 + j) := lvV hj
  have e1 : vI M (Λ (150 + j)) 450 = V (150 + j) 450 := hR.iv hl (by decide) (by decide)
  have e2 : vI M (Λ (150 + j)) 451 = V (150 + j) 451 := hR.iv hl (by decide) (by decide)
  refine m_fine (hR.kV hj) hw (by rw [e1]; exact hP.2 j hj) Q (hQ _ ?_)
  rw [e1, e2]
  refine ⟨(hR.sI (k := 450) hl (by decide) (by decide) (by decide)).sI (k := 451) hl (by decide) (by decide) (by decide), hP.1, fun q hq => ?_⟩
  show zCh (u2 V (150 + j) 450 (if V (150 + j) 450 = 45 then w else V (150 + j) 450) (150 + q) 450)
  unfold u2
  split
  · split
    · exact hw
    · exact hP.2 j hj
  · exact hP.2 q hq
def gJ1 (a j : Nat) (V : Nat → Nat → Int32) : Nat → Nat → Int32 := if gFire (140 + a) V = true then fFine V (150 + j) 102 20 else V
def gJ2 (S : zSt) (a j : Nat) (V : Nat → Nat → Int32) : Nat → Nat → Int32 := if 10 * V (140 + a) 162 + V (100 + sP S j) 353 ≤ V 6 288 then V else fFine V (150 + j) 110 10
def gJ3 (S : zSt) (j : Nat) (t : zVp) : Nat → Nat → Int32 := if gNear S (sP S j) (t.1 6 289) t = true then fFine t.1 (150 + j) 100 5 else t.1
def gJ4 (a j : Nat) (V : Nat → Nat → Int32) : Nat → Nat → Int32 := u2 (u2 V (140 + a) 167 (V (140 + a) 167 - V (150 + j) 451)) 7 232 (V 7 232 + V (150 + j) 451)
def gJudge (S : zSt) (a j : Nat) (t : zVp) : zVp := (gJ4 a j (gJ3 S j (gJ2 S a j (gJ1 a j t.1), t.2.1, t.2.2)), t.2.1, t.2.2)
theorem c_judge {a j : Nat} (hR : zRp Z Λ (wV S V) M) (hP : zPl Λ (wV S V, pl, nx) M) (h3 : sc S 3 = 1)(hj : j < sc S 2) (ha : a < sc S 1) : zG Z l 4 mth_X2_judge [.ref (Λ 7), .ref (Λ (150 + j)), .ref (Λ (140 + a))] M 0 0 none (zRq Z Λ S (gJudge S a j (V, pl, nx))) := by
  intro Q hQ
  show zX Z l 4 mth_X2_judge 0 [(0, .ref (Λ 7)), (1, .ref (Λ (150 + j))), (2, .ref (Λ (140 + a)))] [] M 0 0 Q
  refine zs_aload_n (n := 1) dX2_judge_0 rfl rfl ?_
  refine zc_V (n := 4) (As := []) (ci := 5) (mc := 0) (ms := 0) dX2_judge_1 ok_X0_isUnlawfulFire ⟨ml_X2_96, im_X0_isUnlawfulFire, sl_X0_isUnlawfulFire⟩ rfl (hR.kA ha) rfl (Nat.le_of_ble_eq_true rfl) (by simp) (by omega) (Nat.le_refl _) (Nat.le_refl _) rfl rfl (c_isUnlawfulFire hR ha) ?_
  refine zs_if_eq (tgt := 15) (n := 7) dX2_judge_4 (by decide) rfl (fun h4 => ?_) (fun h4 => ?_)
  · have hRP : zRq Z Λ S ((gJ1 a j V), pl, nx) M := by
      unfold gJ1
      first | (rw [if_pos (zb1.mp h4)]; exact ⟨hR, hP⟩) | (rw [if_neg (by rw [zb0.mp h4]; decide)]; exact ⟨hR, hP⟩)
    have hR := hRP.1
    have hP := hRP.2
    refine zs_bipush (v := 10) (n := 17) dX2_judge_15 (by decide) rfl ?_
    refine zs_aload_n (n := 18) dX2_judge_17 rfl rfl ?_
    refine zs_getv (x := ((gJ1 a j V) (140 + a) 162)) (n := 21) dX2_judge_18 gf_X2_105 (hR.kA ha) (hR.iv (lvA ha) (by decide) (by decide)) rfl ?_
    refine zs_imul (n := 22) dX2_judge_21 rfl ?_
    refine zs_aload_n (n := 23) dX2_judge_22 rfl rfl ?_
    refine zs_getr (b := (Λ (100 + (sP (wV S (gJ1 a j V)) j)))) (n := 26) dX2_judge_23 gf_X2_73 (hR.kV hj) (hR.vp hj) rfl ?_
    refine zs_getv (x := ((gJ1 a j V) (100 + (sP (wV S (gJ1 a j V)) j)) 353)) (n := 29) dX2_judge_26 gf_X2_108 (hR.kP (hR.vpb hj)) (hR.iv (lvP (hR.vpb hj)) (by decide) (by decide)) rfl ?_
    refine zs_iadd (n := 30) dX2_judge_29 rfl ?_
    refine zs_aload_n (n := 31) dX2_judge_30 rfl rfl ?_
    refine zs_getr (b := (Λ 6)) (n := 34) dX2_judge_31 gf_X2_19 (hR.kd (lvC h3 (by omega))) (hR.pt (lvC h3 (by omega)) rfl (by decide)) rfl ?_
    refine zs_getv (x := ((gJ1 a j V) 6 288)) (n := 37) dX2_judge_34 gf_X2_111 (hR.kd (lvC h3 (by omega))) (hR.iv (lvC h3 (by omega)) (by decide) (by decide)) rfl ?_
    refine zs_icmp_le (tgt := 48) (n := 40) dX2_judge_37 (by decide) rfl (fun h37 => ?_) (fun h37 => ?_)
    · have hRP : zRq Z Λ S ((gJ2 S a j (gJ1 a j V)), pl, nx) M := by
        unfold gJ2
        first | (rw [if_pos h37]; exact ⟨hR, hP⟩) | (rw [if_neg h37]; exact ⟨hR, hP⟩)
      have hR := hRP.1
      have hP := hRP.2
      refine zs_aload_n (n := 49) dX2_judge_48 rfl rfl ?_
      refine zs_getr (b := (Λ 2)) (n := 52) dX2_judge_49 gf_X2_9 (hR.kd (lvC h3 (by omega))) (hR.pt (lvC h3 (by omega)) rfl (by decide)) rfl ?_
      refine zs_aload_n (n := 53) dX2_judge_52 rfl rfl ?_
      refine zs_getr (b := (Λ (100 + (sP (wV S (gJ2 S a j (gJ1 a j V))) j)))) (n := 56) dX2_judge_53 gf_X2_73 (hR.kV hj) (hR.vp hj) rfl ?_
      refine zs_aload_n (n := 57) dX2_judge_56 rfl rfl ?_
      refine zs_getr (b := (Λ 6)) (n := 60) dX2_judge_57 gf_X2_19 (hR.kd (lvC h3 (by omega))) (hR.pt (lvC h3 (by omega)) rfl (by decide)) rfl ?_
      refine zs_getv (x := ((gJ2 S a j (gJ1 a j V)) 6 289)) (n := 63) dX2_judge_60 gf_X2_116 (hR.kd (lvC h3 (by omega))) (hR.iv (lvC h3 (by omega)) (by decide) (by decide)) rfl ?_
      refine zc_V (n := 66) (As := [.ref (Λ (100 + (sP (wV S (gJ2 S a j (gJ1 a j V))) j))), .int ((gJ2 S a j (gJ1 a j V)) 6 289)]) (ci := 12) (mc := 0) (ms := 0) dX2_judge_63 ok_X7_hasPlayingNearer ⟨ml_X2_119, im_X7_hasPlayingNearer, sl_X7_hasPlayingNearer⟩ rfl (hR.kd (lvC h3 (by omega))) rfl (Nat.le_of_ble_eq_true rfl) (by simp) (by omega) (Nat.le_refl _) (Nat.le_refl _) rfl rfl (c_hasPlayingNearer hR hP h3 (hR.vpb hj)) ?_
      refine zs_if_eq (tgt := 76) (n := 69) dX2_judge_66 (by decide) rfl (fun h66 => ?_) (fun h66 => ?_)
      · have hRP : zRq Z Λ S ((gJ3 S j ((gJ2 S a j (gJ1 a j V)), pl, nx)), pl, nx) M := by
          unfold gJ3
          first | (rw [if_pos (zb1.mp h66)]; exact ⟨hR, hP⟩) | (rw [if_neg (by rw [zb0.mp h66]; decide)]; exact ⟨hR, hP⟩)
        have hR := hRP.1
        have hP := hRP.2
        refine zs_aload_n (n := 77) dX2_judge_76 rfl rfl ?_
        refine zs_dup (n := 78) dX2_judge_77 rfl rfl ?_
        refine zs_getv (x := ((gJ3 S j ((gJ2 S a j (gJ1 a j V)), pl, nx)) (140 + a) 167)) (n := 81) dX2_judge_78 gf_X2_123 (hR.kA ha) (hR.iv (lvA ha) (by decide) (by decide)) rfl ?_
        refine zs_aload_n (n := 82) dX2_judge_81 rfl rfl ?_
        refine zs_getv (x := ((gJ3 S j ((gJ2 S a j (gJ1 a j V)), pl, nx)) (150 + j) 451)) (n := 85) dX2_judge_82 gf_X2_126 (hR.kV hj) (hR.iv (lvV hj) (by decide) (by decide)) rfl ?_
        refine zs_isub (n := 86) dX2_judge_85 rfl ?_
        refine zw_i (r := (140 + a)) (n := 89) dX2_judge_86 pf_X2_judge_123 hR (lvA ha) (hR.kA ha) ⟨rfl, rfl⟩ (by decide) rfl ?_
        intro M hR hv
        have hR : zRp Z Λ (wV S (u2 (gJ3 S j ((gJ2 S a j (gJ1 a j V)), pl, nx)) (140 + a) 167 (((gJ3 S j ((gJ2 S a j (gJ1 a j V)), pl, nx)) (140 + a) 167) - ((gJ3 S j ((gJ2 S a j (gJ1 a j V)), pl, nx)) (150 + j) 451)))) M := hR
        have hP : zPl Λ ((wV S (u2 (gJ3 S j ((gJ2 S a j (gJ1 a j V)), pl, nx)) (140 + a) 167 (((gJ3 S j ((gJ2 S a j (gJ1 a j V)), pl, nx)) (140 + a) 167) - ((gJ3 S j ((gJ2 S a j (gJ1 a j V)), pl, nx)) (150 + j) 451)))), pl, nx) M := zPl.of (T := (wV S (gJ3 S j ((gJ2 S a j (gJ1 a j V)), pl, nx)), pl, nx)) hP hv rfl rfl (fun _ => rfl) (fun _ => rfl)
        refine zs_aload_n (n := 90) dX2_judge_89 rfl rfl ?_
        refine zs_dup (n := 91) dX2_judge_90 rfl rfl ?_
        refine zs_getv (x := ((u2 (gJ3 S j ((gJ2 S a j (gJ1 a j V)), pl, nx)) (140 + a) 167 (((gJ3 S j ((gJ2 S a j (gJ1 a j V)), pl, nx)) (140 + a) 167) - ((gJ3 S j ((gJ2 S a j (gJ1 a j V)), pl, nx)) (150 + j) 451))) 7 232)) (n := 94) dX2_judge_91 gf_X2_129 (hR.kd (lvC h3 (by omega))) (hR.iv (lvC h3 (by omega)) (by decide) (by decide)) rfl ?_
        refine zs_aload_n (n := 95) dX2_judge_94 rfl rfl ?_
        refine zs_getv (x := ((u2 (gJ3 S j ((gJ2 S a j (gJ1 a j V)), pl, nx)) (140 + a) 167 (((gJ3 S j ((gJ2 S a j (gJ1 a j V)), pl, nx)) (140 + a) 167) - ((gJ3 S j ((gJ2 S a j (gJ1 a j V)), pl, nx)) (150 + j) 451))) (150 + j) 451)) (n := 98) dX2_judge_95 gf_X2_126 (hR.kV hj) (hR.iv (lvV hj) (by decide) (by decide)) rfl ?_
        refine zs_iadd (n := 99) dX2_judge_98 rfl ?_
        refine zw_i (r := 7) (n := 102) dX2_judge_99 pf_X2_judge_129 hR (lvC h3 (by omega)) (hR.kd (lvC h3 (by omega))) ⟨rfl, rfl⟩ (by decide) rfl ?_
        intro M hR hv
        have hR : zRp Z Λ (wV S (u2 (u2 (gJ3 S j ((gJ2 S a j (gJ1 a j V)), pl, nx)) (140 + a) 167 (((gJ3 S j ((gJ2 S a j (gJ1 a j V)), pl, nx)) (140 + a) 167) - ((gJ3 S j ((gJ2 S a j (gJ1 a j V)), pl, nx)) (150 + j) 451))) 7 232 (((u2 (gJ3 S j ((gJ2 S a j (gJ1 a j V)), pl, nx)) (140 + a) 167 (((gJ3 S j ((gJ2 S a j (gJ1 a j V)), pl, nx)) (140 + a) 167) - ((gJ3 S j ((gJ2 S a j (gJ1 a j V)), pl, nx)) (150 + j) 451))) 7 232) + ((u2 (gJ3 S j ((gJ2 S a j (gJ1 a j V)), pl, nx)) (140 + a) 167 (((gJ3 S j ((gJ2 S a j (gJ1 a j V)), pl, nx)) (140 + a) 167) - ((gJ3 S j ((gJ2 S a j (gJ1 a j V)), pl, nx)) (150 + j) 451))) (150 + j) 451)))) M := hR
        have hP : zPl Λ ((wV S (u2 (u2 (gJ3 S j ((gJ2 S a j (gJ1 a j V)), pl, nx)) (140 + a) 167 (((gJ3 S j ((gJ2 S a j (gJ1 a j V)), pl, nx)) (140 + a) 167) - ((gJ3 S j ((gJ2 S a j (gJ1 a j V)), pl, nx)) (150 + j) 451))) 7 232 (((u2 (gJ3 S j ((gJ2 S a j (gJ1 a j V)), pl, nx)) (140 + a) 167 (((gJ3 S j ((gJ2 S a j (gJ1 a j V)), pl, nx)) (140 + a) 167) - ((gJ3 S j ((gJ2 S a j (gJ1 a j V)), pl, nx)) (150 + j) 451))) 7 232) + ((u2 (gJ3 S j ((gJ2 S a j (gJ1 a j V)), pl, nx)) (140 + a) 167 (((gJ3 S j ((gJ2 S a j (gJ1 a j V)), pl, nx)) (140 + a) 167) - ((gJ3 S j ((gJ2 S a j (gJ1 a j V)), pl, nx)) (150 + j) 451))) (150 + j) 451)))), pl, nx) M := zPl.of (T := (wV S (u2 (gJ3 S j ((gJ2 S a j (gJ1 a j V)), pl, nx)) (140 + a) 167 (((gJ3 S j ((gJ2 S a j (gJ1 a j V)), pl, nx)) (140 + a) 167) - ((gJ3 S j ((gJ2 S a j (gJ1 a j V)), pl, nx)) (150 + j) 451))), pl, nx)) hP hv rfl rfl (fun _ => rfl) (fun _ => rfl)
        refine zs_return dX2_judge_102 rfl ?_
        exact hQ _ ⟨hR, hP⟩
      · refine zs_aload_n (n := 70) dX2_judge_69 rfl rfl ?_
        refine zs_bipush (v := 100) (n := 72) dX2_judge_70 (by decide) rfl ?_
        refine zs_iconst (v := 5) (n := 73) dX2_judge_72 (by decide) rfl ?_
        refine zg_V (n := 76) (As := [.int (100 : Int32), .int (5 : Int32)]) (ci := 14) (mc := 0) (ms := 0) dX2_judge_73 ok_X9_fine ⟨ml_X2_101, im_X9_fine, sl_X9_fine⟩ rfl (hR.kV hj) rfl (Nat.le_of_ble_eq_true rfl) (by simp) (by omega) (Nat.le_refl _) (Nat.le_refl _) rfl rfl (c_fine hR hP hj ⟨by decide, by decide⟩) ?_
        intro M hR9
        have hR := hR9.1
        have hP := hR9.2
        have hRP : zRq Z Λ S ((gJ3 S j ((gJ2 S a j (gJ1 a j V)), pl, nx)), pl, nx) M := by
          unfold gJ3
          first | (rw [if_pos (zb1.mp h66)]; exact ⟨hR, hP⟩) | (rw [if_neg (by rw [zb0.mp h66]; decide)]; exact ⟨hR, hP⟩)
        have hR := hRP.1
        have hP := hRP.2
        refine zs_aload_n (n := 77) dX2_judge_76 rfl rfl ?_
        refine zs_dup (n := 78) dX2_judge_77 rfl rfl ?_
        refine zs_getv (x := ((gJ3 S j ((gJ2 S a j (gJ1 a j V)), pl, nx)) (140 + a) 167)) (n := 81) dX2_judge_78 gf_X2_123 (hR.kA ha) (hR.iv (lvA ha) (by decide) (by decide)) rfl ?_
        refine zs_aload_n (n := 82) dX2_judge_81 rfl rfl ?_
        refine zs_getv (x := ((gJ3 S j ((gJ2 S a j (gJ1 a j V)), pl, nx)) (150 + j) 451)) (n := 85) dX2_judge_82 gf_X2_126 (hR.kV hj) (hR.iv (lvV hj) (by decide) (by decide)) rfl ?_
        refine zs_isub (n := 86) dX2_judge_85 rfl ?_
        refine zw_i (r := (140 + a)) (n := 89) dX2_judge_86 pf_X2_judge_123 hR (lvA ha) (hR.kA ha) ⟨rfl, rfl⟩ (by decide) rfl ?_
        intro M hR hv
        have hR : zRp Z Λ (wV S (u2 (gJ3 S j ((gJ2 S a j (gJ1 a j V)), pl, nx)) (140 + a) 167 (((gJ3 S j ((gJ2 S a j (gJ1 a j V)), pl, nx)) (140 + a) 167) - ((gJ3 S j ((gJ2 S a j (gJ1 a j V)), pl, nx)) (150 + j) 451)))) M := hR
        have hP : zPl Λ ((wV S (u2 (gJ3 S j ((gJ2 S a j (gJ1 a j V)), pl, nx)) (140 + a) 167 (((gJ3 S j ((gJ2 S a j (gJ1 a j V)), pl, nx)) (140 + a) 167) - ((gJ3 S j ((gJ2 S a j (gJ1 a j V)), pl, nx)) (150 + j) 451)))), pl, nx) M := zPl.of (T := (wV S (gJ3 S j ((gJ2 S a j (gJ1 a j V)), pl, nx)), pl, nx)) hP hv rfl rfl (fun _ => rfl) (fun _ => rfl)
        refine zs_aload_n (n := 90) dX2_judge_89 rfl rfl ?_
        refine zs_dup (n := 91) dX2_judge_90 rfl rfl ?_
        refine zs_getv (x := ((u2 (gJ3 S j ((gJ2 S a j (gJ1 a j V)), pl, nx)) (140 + a) 167 (((gJ3 S j ((gJ2 S a j (gJ1 a j V)), pl, nx)) (140 + a) 167) - ((gJ3 S j ((gJ2 S a j (gJ1 a j V)), pl, nx)) (150 + j) 451))) 7 232)) (n := 94) dX2_judge_91 gf_X2_129 (hR.kd (lvC h3 (by omega))) (hR.iv (lvC h3 (by omega)) (by decide) (by decide)) rfl ?_
        refine zs_aload_n (n := 95) dX2_judge_94 rfl rfl ?_
        refine zs_getv (x := ((u2 (gJ3 S j ((gJ2 S a j (gJ1 a j V)), pl, nx)) (140 + a) 167 (((gJ3 S j ((gJ2 S a j (gJ1 a j V)), pl, nx)) (140 + a) 167) - ((gJ3 S j ((gJ2 S a j (gJ1 a j V)), pl, nx)) (150 + j) 451))) (150 + j) 451)) (n := 98) dX2_judge_95 gf_X2_126 (hR.kV hj) (hR.iv (lvV hj) (by decide) (by decide)) rfl ?_
        refine zs_iadd (n := 99) dX2_judge_98 rfl ?_
        refine zw_i (r := 7) (n := 102) dX2_judge_99 pf_X2_judge_129 hR (lvC h3 (by omega)) (hR.kd (lvC h3 (by omega))) ⟨rfl, rfl⟩ (by decide) rfl ?_
        intro M hR hv
        have hR : zRp Z Λ (wV S (u2 (u2 (gJ3 S j ((gJ2 S a j (gJ1 a j V)), pl, nx)) (140 + a) 167 (((gJ3 S j ((gJ2 S a j (gJ1 a j V)), pl, nx)) (140 + a) 167) - ((gJ3 S j ((gJ2 S a j (gJ1 a j V)), pl, nx)) (150 + j) 451))) 7 232 (((u2 (gJ3 S j ((gJ2 S a j (gJ1 a j V)), pl, nx)) (140 + a) 167 (((gJ3 S j ((gJ2 S a j (gJ1 a j V)), pl, nx)) (140 + a) 167) - ((gJ3 S j ((gJ2 S a j (gJ1 a j V)), pl, nx)) (150 + j) 451))) 7 232) + ((u2 (gJ3 S j ((gJ2 S a j (gJ1 a j V)), pl, nx)) (140 + a) 167 (((gJ3 S j ((gJ2 S a j (gJ1 a j V)), pl, nx)) (140 + a) 167) - ((gJ3 S j ((gJ2 S a j (gJ1 a j V)), pl, nx)) (150 + j) 451))) (150 + j) 451)))) M := hR
        have hP : zPl Λ ((wV S (u2 (u2 (gJ3 S j ((gJ2 S a j (gJ1 a j V)), pl, nx)) (140 + a) 167 (((gJ3 S j ((gJ2 S a j (gJ1 a j V)), pl, nx)) (140 + a) 167) - ((gJ3 S j ((gJ2 S a j (gJ1 a j V)), pl, nx)) (150 + j) 451))) 7 232 (((u2 (gJ3 S j ((gJ2 S a j (gJ1 a j V)), pl, nx)) (140 + a) 167 (((gJ3 S j ((gJ2 S a j (gJ1 a j V)), pl, nx)) (140 + a) 167) - ((gJ3 S j ((gJ2 S a j (gJ1 a j V)), pl, nx)) (150 + j) 451))) 7 232) + ((u2 (gJ3 S j ((gJ2 S a j (gJ1 a j V)), pl, nx)) (140 + a) 167 (((gJ3 S j ((gJ2 S a j (gJ1 a j V)), pl, nx)) (140 + a) 167) - ((gJ3 S j ((gJ2 S a j (gJ1 a j V)), pl, nx)) (150 + j) 451))) (150 + j) 451)))), pl, nx) M := zPl.of (T := (wV S (u2 (gJ3 S j ((gJ2 S a j (gJ1 a j V)), pl, nx)) (140 + a) 167 (((gJ3 S j ((gJ2 S a j (gJ1 a j V)), pl, nx)) (140 + a) 167) - ((gJ3 S j ((gJ2 S a j (gJ1 a j V)), pl, nx)) (150 + j) 451))), pl, nx)) hP hv rfl rfl (fun _ => rfl) (fun _ => rfl)
        refine zs_return dX2_judge_102 rfl ?_
        exact hQ _ ⟨hR, hP⟩
    · refine zs_aload_n (n := 41) dX2_judge_40 rfl rfl ?_
      refine zs_bipush (v := 110) (n := 43) dX2_judge_41 (by decide) rfl ?_
      refine zs_bipush (v := 10) (n := 45) dX2_judge_43 (by decide) rfl ?_
      refine zg_V (n := 48) (As := [.int (110 : Int32), .int (10 : Int32)]) (ci := 14) (mc := 0) (ms := 0) dX2_judge_45 ok_X9_fine ⟨ml_X2_101, im_X9_fine, sl_X9_fine⟩ rfl (hR.kV hj) rfl (Nat.le_of_ble_eq_true rfl) (by simp) (by omega) (Nat.le_refl _) (Nat.le_refl _) rfl rfl (c_fine hR hP hj ⟨by decide, by decide⟩) ?_
      intro M hR9
      have hR := hR9.1
      have hP := hR9.2
      have hRP : zRq Z Λ S ((gJ2 S a j (gJ1 a j V)), pl, nx) M := by
        unfold gJ2
        first | (rw [if_pos h37]; exact ⟨hR, hP⟩) | (rw [if_neg h37]; exact ⟨hR, hP⟩)
      have hR := hRP.1
      have hP := hRP.2
      refine zs_aload_n (n := 49) dX2_judge_48 rfl rfl ?_
      refine zs_getr (b := (Λ 2)) (n := 52) dX2_judge_49 gf_X2_9 (hR.kd (lvC h3 (by omega))) (hR.pt (lvC h3 (by omega)) rfl (by decide)) rfl ?_
      refine zs_aload_n (n := 53) dX2_judge_52 rfl rfl ?_
      refine zs_getr (b := (Λ (100 + (sP (wV S (gJ2 S a j (gJ1 a j V))) j)))) (n := 56) dX2_judge_53 gf_X2_73 (hR.kV hj) (hR.vp hj) rfl ?_
      refine zs_aload_n (n := 57) dX2_judge_56 rfl rfl ?_
      refine zs_getr (b := (Λ 6)) (n := 60) dX2_judge_57 gf_X2_19 (hR.kd (lvC h3 (by omega))) (hR.pt (lvC h3 (by omega)) rfl (by decide)) rfl ?_
      refine zs_getv (x := ((gJ2 S a j (gJ1 a j V)) 6 289)) (n := 63) dX2_judge_60 gf_X2_116 (hR.kd (lvC h3 (by omega))) (hR.iv (lvC h3 (by omega)) (by decide) (by decide)) rfl ?_
      refine zc_V (n := 66) (As := [.ref (Λ (100 + (sP (wV S (gJ2 S a j (gJ1 a j V))) j))), .int ((gJ2 S a j (gJ1 a j V)) 6 289)]) (ci := 12) (mc := 0) (ms := 0) dX2_judge_63 ok_X7_hasPlayingNearer ⟨ml_X2_119, im_X7_hasPlayingNearer, sl_X7_hasPlayingNearer⟩ rfl (hR.kd (lvC h3 (by omega))) rfl (Nat.le_of_ble_eq_true rfl) (by simp) (by omega) (Nat.le_refl _) (Nat.le_refl _) rfl rfl (c_hasPlayingNearer hR hP h3 (hR.vpb hj)) ?_
      refine zs_if_eq (tgt := 76) (n := 69) dX2_judge_66 (by decide) rfl (fun h66 => ?_) (fun h66 => ?_)
      · have hRP : zRq Z Λ S ((gJ3 S j ((gJ2 S a j (gJ1 a j V)), pl, nx)), pl, nx) M := by
          unfold gJ3
          first | (rw [if_pos (zb1.mp h66)]; exact ⟨hR, hP⟩) | (rw [if_neg (by rw [zb0.mp h66]; decide)]; exact ⟨hR, hP⟩)
        have hR := hRP.1
        have hP := hRP.2
        refine zs_aload_n (n := 77) dX2_judge_76 rfl rfl ?_
        refine zs_dup (n := 78) dX2_judge_77 rfl rfl ?_
        refine zs_getv (x := ((gJ3 S j ((gJ2 S a j (gJ1 a j V)), pl, nx)) (140 + a) 167)) (n := 81) dX2_judge_78 gf_X2_123 (hR.kA ha) (hR.iv (lvA ha) (by decide) (by decide)) rfl ?_
        refine zs_aload_n (n := 82) dX2_judge_81 rfl rfl ?_
        refine zs_getv (x := ((gJ3 S j ((gJ2 S a j (gJ1 a j V)), pl, nx)) (150 + j) 451)) (n := 85) dX2_judge_82 gf_X2_126 (hR.kV hj) (hR.iv (lvV hj) (by decide) (by decide)) rfl ?_
        refine zs_isub (n := 86) dX2_judge_85 rfl ?_
        refine zw_i (r := (140 + a)) (n := 89) dX2_judge_86 pf_X2_judge_123 hR (lvA ha) (hR.kA ha) ⟨rfl, rfl⟩ (by decide) rfl ?_
        intro M hR hv
        have hR : zRp Z Λ (wV S (u2 (gJ3 S j ((gJ2 S a j (gJ1 a j V)), pl, nx)) (140 + a) 167 (((gJ3 S j ((gJ2 S a j (gJ1 a j V)), pl, nx)) (140 + a) 167) - ((gJ3 S j ((gJ2 S a j (gJ1 a j V)), pl, nx)) (150 + j) 451)))) M := hR
        have hP : zPl Λ ((wV S (u2 (gJ3 S j ((gJ2 S a j (gJ1 a j V)), pl, nx)) (140 + a) 167 (((gJ3 S j ((gJ2 S a j (gJ1 a j V)), pl, nx)) (140 + a) 167) - ((gJ3 S j ((gJ2 S a j (gJ1 a j V)), pl, nx)) (150 + j) 451)))), pl, nx) M := zPl.of (T := (wV S (gJ3 S j ((gJ2 S a j (gJ1 a j V)), pl, nx)), pl, nx)) hP hv rfl rfl (fun _ => rfl) (fun _ => rfl)
        refine zs_aload_n (n := 90) dX2_judge_89 rfl rfl ?_
        refine zs_dup (n := 91) dX2_judge_90 rfl rfl ?_
        refine zs_getv (x := ((u2 (gJ3 S j ((gJ2 S a j (gJ1 a j V)), pl, nx)) (140 + a) 167 (((gJ3 S j ((gJ2 S a j (gJ1 a j V)), pl, nx)) (140 + a) 167) - ((gJ3 S j ((gJ2 S a j (gJ1 a j V)), pl, nx)) (150 + j) 451))) 7 232)) (n := 94) dX2_judge_91 gf_X2_129 (hR.kd (lvC h3 (by omega))) (hR.iv (lvC h3 (by omega)) (by decide) (by decide)) rfl ?_
        refine zs_aload_n (n := 95) dX2_judge_94 rfl rfl ?_
        refine zs_getv (x := ((u2 (gJ3 S j ((gJ2 S a j (gJ1 a j V)), pl, nx)) (140 + a) 167 (((gJ3 S j ((gJ2 S a j (gJ1 a j V)), pl, nx)) (140 + a) 167) - ((gJ3 S j ((gJ2 S a j (gJ1 a j V)), pl, nx)) (150 + j) 451))) (150 + j) 451)) (n := 98) dX2_judge_95 gf_X2_126 (hR.kV hj) (hR.iv (lvV hj) (by decide) (by decide)) rfl ?_
        refine zs_iadd (n := 99) dX2_judge_98 rfl ?_
        refine zw_i (r := 7) (n := 102) dX2_judge_99 pf_X2_judge_129 hR (lvC h3 (by omega)) (hR.kd (lvC h3 (by omega))) ⟨rfl, rfl⟩ (by decide) rfl ?_
        intro M hR hv
        have hR : zRp Z Λ (wV S (u2 (u2 (gJ3 S j ((gJ2 S a j (gJ1 a j V)), pl, nx)) (140 + a) 167 (((gJ3 S j ((gJ2 S a j (gJ1 a j V)), pl, nx)) (140 + a) 167) - ((gJ3 S j ((gJ2 S a j (gJ1 a j V)), pl, nx)) (150 + j) 451))) 7 232 (((u2 (gJ3 S j ((gJ2 S a j (gJ1 a j V)), pl, nx)) (140 + a) 167 (((gJ3 S j ((gJ2 S a j (gJ1 a j V)), pl, nx)) (140 + a) 167) - ((gJ3 S j ((gJ2 S a j (gJ1 a j V)), pl, nx)) (150 + j) 451))) 7 232) + ((u2 (gJ3 S j ((gJ2 S a j (gJ1 a j V)), pl, nx)) (140 + a) 167 (((gJ3 S j ((gJ2 S a j (gJ1 a j V)), pl, nx)) (140 + a) 167) - ((gJ3 S j ((gJ2 S a j (gJ1 a j V)), pl, nx)) (150 + j) 451))) (150 + j) 451)))) M := hR
        have hP : zPl Λ ((wV S (u2 (u2 (gJ3 S j ((gJ2 S a j (gJ1 a j V)), pl, nx)) (140 + a) 167 (((gJ3 S j ((gJ2 S a j (gJ1 a j V)), pl, nx)) (140 + a) 167) - ((gJ3 S j ((gJ2 S a j (gJ1 a j V)), pl, nx)) (150 + j) 451))) 7 232 (((u2 (gJ3 S j ((gJ2 S a j (gJ1 a j V)), pl, nx)) (140 + a) 167 (((gJ3 S j ((gJ2 S a j (gJ1 a j V)), pl, nx)) (140 + a) 167) - ((gJ3 S j ((gJ2 S a j (gJ1 a j V)), pl, nx)) (150 + j) 451))) 7 232) + ((u2 (gJ3 S j ((gJ2 S a j (gJ1 a j V)), pl, nx)) (140 + a) 167 (((gJ3 S j ((gJ2 S a j (gJ1 a j V)), pl, nx)) (140 + a) 167) - ((gJ3 S j ((gJ2 S a j (gJ1 a j V)), pl, nx)) (150 + j) 451))) (150 + j) 451)))), pl, nx) M := zPl.of (T := (wV S (u2 (gJ3 S j ((gJ2 S a j (gJ1 a j V)), pl, nx)) (140 + a) 167 (((gJ3 S j ((gJ2 S a j (gJ1 a j V)), pl, nx)) (140 + a) 167) - ((gJ3 S j ((gJ2 S a j (gJ1 a j V)), pl, nx)) (150 + j) 451))), pl, nx)) hP hv rfl rfl (fun _ => rfl) (fun _ => rfl)
        refine zs_return dX2_judge_102 rfl ?_
        exact hQ _ ⟨hR, hP⟩
      · refine zs_aload_n (n := 70) dX2_judge_69 rfl rfl ?_
        refine zs_bipush (v := 100) (n := 72) dX2_judge_70 (by decide) rfl ?_
        refine zs_iconst (v := 5) (n := 73) dX2_judge_72 (by decide) rfl ?_
        refine zg_V (n := 76) (As := [.int (100 : Int32), .int (5 : Int32)]) (ci := 14) (mc := 0) (ms := 0) dX2_judge_73 ok_X9_fine ⟨ml_X2_101, im_X9_fine, sl_X9_fine⟩ rfl (hR.kV hj) rfl (Nat.le_of_ble_eq_true rfl) (by simp) (by omega) (Nat.le_refl _) (Nat.le_refl _) rfl rfl (c_fine hR hP hj ⟨by decide, by decide⟩) ?_
        intro M hR9
        have hR := hR9.1
        have hP := hR9.2
        have hRP : zRq Z Λ S ((gJ3 S j ((gJ2 S a j (gJ1 a j V)), pl, nx)), pl, nx) M := by
          unfold gJ3
          first | (rw [if_pos (zb1.mp h66)]; exact ⟨hR, hP⟩) | (rw [if_neg (by rw [zb0.mp h66]; decide)]; exact ⟨hR, hP⟩)
        have hR := hRP.1
        have hP := hRP.2
        refine zs_aload_n (n := 77) dX2_judge_76 rfl rfl ?_
        refine zs_dup (n := 78) dX2_judge_77 rfl rfl ?_
        refine zs_getv (x := ((gJ3 S j ((gJ2 S a j (gJ1 a j V)), pl, nx)) (140 + a) 167)) (n := 81) dX2_judge_78 gf_X2_123 (hR.kA ha) (hR.iv (lvA ha) (by decide) (by decide)) rfl ?_
        refine zs_aload_n (n := 82) dX2_judge_81 rfl rfl ?_
        refine zs_getv (x := ((gJ3 S j ((gJ2 S a j (gJ1 a j V)), pl, nx)) (150 + j) 451)) (n := 85) dX2_judge_82 gf_X2_126 (hR.kV hj) (hR.iv (lvV hj) (by decide) (by decide)) rfl ?_
        refine zs_isub (n := 86) dX2_judge_85 rfl ?_
        refine zw_i (r := (140 + a)) (n := 89) dX2_judge_86 pf_X2_judge_123 hR (lvA ha) (hR.kA ha) ⟨rfl, rfl⟩ (by decide) rfl ?_
        intro M hR hv
        have hR : zRp Z Λ (wV S (u2 (gJ3 S j ((gJ2 S a j (gJ1 a j V)), pl, nx)) (140 + a) 167 (((gJ3 S j ((gJ2 S a j (gJ1 a j V)), pl, nx)) (140 + a) 167) - ((gJ3 S j ((gJ2 S a j (gJ1 a j V)), pl, nx)) (150 + j) 451)))) M := hR
        have hP : zPl Λ ((wV S (u2 (gJ3 S j ((gJ2 S a j (gJ1 a j V)), pl, nx)) (140 + a) 167 (((gJ3 S j ((gJ2 S a j (gJ1 a j V)), pl, nx)) (140 + a) 167) - ((gJ3 S j ((gJ2 S a j (gJ1 a j V)), pl, nx)) (150 + j) 451)))), pl, nx) M := zPl.of (T := (wV S (gJ3 S j ((gJ2 S a j (gJ1 a j V)), pl, nx)), pl, nx)) hP hv rfl rfl (fun _ => rfl) (fun _ => rfl)
        refine zs_aload_n (n := 90) dX2_judge_89 rfl rfl ?_
        refine zs_dup (n := 91) dX2_judge_90 rfl rfl ?_
        refine zs_getv (x := ((u2 (gJ3 S j ((gJ2 S a j (gJ1 a j V)), pl, nx)) (140 + a) 167 (((gJ3 S j ((gJ2 S a j (gJ1 a j V)), pl, nx)) (140 + a) 167) - ((gJ3 S j ((gJ2 S a j (gJ1 a j V)), pl, nx)) (150 + j) 451))) 7 232)) (n := 94) dX2_judge_91 gf_X2_129 (hR.kd (lvC h3 (by omega))) (hR.iv (lvC h3 (by omega)) (by decide) (by decide)) rfl ?_
        refine zs_aload_n (n := 95) dX2_judge_94 rfl rfl ?_
        refine zs_getv (x := ((u2 (gJ3 S j ((gJ2 S a j (gJ1 a j V)), pl, nx)) (140 + a) 167 (((gJ3 S j ((gJ2 S a j (gJ1 a j V)), pl, nx)) (140 + a) 167) - ((gJ3 S j ((gJ2 S a j (gJ1 a j V)), pl, nx)) (150 + j) 451))) (150 + j) 451)) (n := 98) dX2_judge_95 gf_X2_126 (hR.kV hj) (hR.iv (lvV hj) (by decide) (by decide)) rfl ?_
        refine zs_iadd (n := 99) dX2_judge_98 rfl ?_
        refine zw_i (r := 7) (n := 102) dX2_judge_99 pf_X2_judge_129 hR (lvC h3 (by omega)) (hR.kd (lvC h3 (by omega))) ⟨rfl, rfl⟩ (by decide) rfl ?_
        intro M hR hv
        have hR : zRp Z Λ (wV S (u2 (u2 (gJ3 S j ((gJ2 S a j (gJ1 a j V)), pl, nx)) (140 + a) 167 (((gJ3 S j ((gJ2 S a j (gJ1 a j V)), pl, nx)) (140 + a) 167) - ((gJ3 S j ((gJ2 S a j (gJ1 a j V)), pl, nx)) (150 + j) 451))) 7 232 (((u2 (gJ3 S j ((gJ2 S a j (gJ1 a j V)), pl, nx)) (140 + a) 167 (((gJ3 S j ((gJ2 S a j (gJ1 a j V)), pl, nx)) (140 + a) 167) - ((gJ3 S j ((gJ2 S a j (gJ1 a j V)), pl, nx)) (150 + j) 451))) 7 232) + ((u2 (gJ3 S j ((gJ2 S a j (gJ1 a j V)), pl, nx)) (140 + a) 167 (((gJ3 S j ((gJ2 S a j (gJ1 a j V)), pl, nx)) (140 + a) 167) - ((gJ3 S j ((gJ2 S a j (gJ1 a j V)), pl, nx)) (150 + j) 451))) (150 + j) 451)))) M := hR
        have hP : zPl Λ ((wV S (u2 (u2 (gJ3 S j ((gJ2 S a j (gJ1 a j V)), pl, nx)) (140 + a) 167 (((gJ3 S j ((gJ2 S a j (gJ1 a j V)), pl, nx)) (140 + a) 167) - ((gJ3 S j ((gJ2 S a j (gJ1 a j V)), pl, nx)) (150 + j) 451))) 7 232 (((u2 (gJ3 S j ((gJ2 S a j (gJ1 a j V)), pl, nx)) (140 + a) 167 (((gJ3 S j ((gJ2 S a j (gJ1 a j V)), pl, nx)) (140 + a) 167) - ((gJ3 S j ((gJ2 S a j (gJ1 a j V)), pl, nx)) (150 + j) 451))) 7 232) + ((u2 (gJ3 S j ((gJ2 S a j (gJ1 a j V)), pl, nx)) (140 + a) 167 (((gJ3 S j ((gJ2 S a j (gJ1 a j V)), pl, nx)) (140 + a) 167) - ((gJ3 S j ((gJ2 S a j (gJ1 a j V)), pl, nx)) (150 + j) 451))) (150 + j) 451)))), pl, nx) M := zPl.of (T := (wV S (u2 (gJ3 S j ((gJ2 S a j (gJ1 a j V)), pl, nx)) (140 + a) 167 (((gJ3 S j ((gJ2 S a j (gJ1 a j V)), pl, nx)) (140 + a) 167) - ((gJ3 S j ((gJ2 S a j (gJ1 a j V)), pl, nx)) (150 + j) 451))), pl, nx)) hP hv rfl rfl (fun _ => rfl) (fun _ => rfl)
        refine zs_return dX2_judge_102 rfl ?_
        exact hQ _ ⟨hR, hP⟩
  · refine zs_aload_n (n := 8) dX2_judge_7 rfl rfl ?_
    refine zs_bipush (v := 102) (n := 10) dX2_judge_8 (by decide) rfl ?_
    refine zs_bipush (v := 20) (n := 12) dX2_judge_10 (by decide) rfl ?_
    refine zg_V (n := 15) (As := [.int (102 : Int32), .int (20 : Int32)]) (ci := 14) (mc := 0) (ms := 0) dX2_judge_12 ok_X9_fine ⟨ml_X2_101, im_X9_fine, sl_X9_fine⟩ rfl (hR.kV hj) rfl (Nat.le_of_ble_eq_true rfl) (by simp) (by omega) (Nat.le_refl _) (Nat.le_refl _) rfl rfl (c_fine hR hP hj ⟨by decide, by decide⟩) ?_
    intro M hR9
    have hR := hR9.1
    have hP := hR9.2
    have hRP : zRq Z Λ S ((gJ1 a j V), pl, nx) M := by
      unfold gJ1
      first | (rw [if_pos (zb1.mp h4)]; exact ⟨hR, hP⟩) | (rw [if_neg (by rw [zb0.mp h4]; decide)]; exact ⟨hR, hP⟩)
    have hR := hRP.1
    have hP := hRP.2
    refine zs_bipush (v := 10) (n := 17) dX2_judge_15 (by decide) rfl ?_
    refine zs_aload_n (n := 18) dX2_judge_17 rfl rfl ?_
    refine zs_getv (x := ((gJ1 a j V) (140 + a) 162)) (n := 21) dX2_judge_18 gf_X2_105 (hR.kA ha) (hR.iv (lvA ha) (by decide) (by decide)) rfl ?_
    refine zs_imul (n := 22) dX2_judge_21 rfl ?_
    refine zs_aload_n (n := 23) dX2_judge_22 rfl rfl ?_
    refine zs_getr (b := (Λ (100 + (sP (wV S (gJ1 a j V)) j)))) (n := 26) dX2_judge_23 gf_X2_73 (hR.kV hj) (hR.vp hj) rfl ?_
    refine zs_getv (x := ((gJ1 a j V) (100 + (sP (wV S (gJ1 a j V)) j)) 353)) (n := 29) dX2_judge_26 gf_X2_108 (hR.kP (hR.vpb hj)) (hR.iv (lvP (hR.vpb hj)) (by decide) (by decide)) rfl ?_
    refine zs_iadd (n := 30) dX2_judge_29 rfl ?_
    refine zs_aload_n (n := 31) dX2_judge_30 rfl rfl ?_
    refine zs_getr (b := (Λ 6)) (n := 34) dX2_judge_31 gf_X2_19 (hR.kd (lvC h3 (by omega))) (hR.pt (lvC h3 (by omega)) rfl (by decide)) rfl ?_
    refine zs_getv (x := ((gJ1 a j V) 6 288)) (n := 37) dX2_judge_34 gf_X2_111 (hR.kd (lvC h3 (by omega))) (hR.iv (lvC h3 (by omega)) (by decide) (by decide)) rfl ?_
    refine zs_icmp_le (tgt := 48) (n := 40) dX2_judge_37 (by decide) rfl (fun h37 => ?_) (fun h37 => ?_)
    · have hRP : zRq Z Λ S ((gJ2 S a j (gJ1 a j V)), pl, nx) M := by
        unfold gJ2
        first | (rw [if_pos h37]; exact ⟨hR, hP⟩) | (rw [if_neg h37]; exact ⟨hR, hP⟩)
      have hR := hRP.1
      have hP := hRP.2
      refine zs_aload_n (n := 49) dX2_judge_48 rfl rfl ?_
      refine zs_getr (b := (Λ 2)) (n := 52) dX2_judge_49 gf_X2_9 (hR.kd (lvC h3 (by omega))) (hR.pt (lvC h3 (by omega)) rfl (by decide)) rfl ?_
      refine zs_aload_n (n := 53) dX2_judge_52 rfl rfl ?_
      refine zs_getr (b := (Λ (100 + (sP (wV S (gJ2 S a j (gJ1 a j V))) j)))) (n := 56) dX2_judge_53 gf_X2_73 (hR.kV hj) (hR.vp hj) rfl ?_
      refine zs_aload_n (n := 57) dX2_judge_56 rfl rfl ?_
      refine zs_getr (b := (Λ 6)) (n := 60) dX2_judge_57 gf_X2_19 (hR.kd (lvC h3 (by omega))) (hR.pt (lvC h3 (by omega)) rfl (by decide)) rfl ?_
      refine zs_getv (x := ((gJ2 S a j (gJ1 a j V)) 6 289)) (n := 63) dX2_judge_60 gf_X2_116 (hR.kd (lvC h3 (by omega))) (hR.iv (lvC h3 (by omega)) (by decide) (by decide)) rfl ?_
      refine zc_V (n := 66) (As := [.ref (Λ (100 + (sP (wV S (gJ2 S a j (gJ1 a j V))) j))), .int ((gJ2 S a j (gJ1 a j V)) 6 289)]) (ci := 12) (mc := 0) (ms := 0) dX2_judge_63 ok_X7_hasPlayingNearer ⟨ml_X2_119, im_X7_hasPlayingNearer, sl_X7_hasPlayingNearer⟩ rfl (hR.kd (lvC h3 (by omega))) rfl (Nat.le_of_ble_eq_true rfl) (by simp) (by omega) (Nat.le_refl _) (Nat.le_refl _) rfl rfl (c_hasPlayingNearer hR hP h3 (hR.vpb hj)) ?_
      refine zs_if_eq (tgt := 76) (n := 69) dX2_judge_66 (by decide) rfl (fun h66 => ?_) (fun h66 => ?_)
      · have hRP : zRq Z Λ S ((gJ3 S j ((gJ2 S a j (gJ1 a j V)), pl, nx)), pl, nx) M := by
          unfold gJ3
          first | (rw [if_pos (zb1.mp h66)]; exact ⟨hR, hP⟩) | (rw [if_neg (by rw [zb0.mp h66]; decide)]; exact ⟨hR, hP⟩)
        have hR := hRP.1
        have hP := hRP.2
        refine zs_aload_n (n := 77) dX2_judge_76 rfl rfl ?_
        refine zs_dup (n := 78) dX2_judge_77 rfl rfl ?_
        refine zs_getv (x := ((gJ3 S j ((gJ2 S a j (gJ1 a j V)), pl, nx)) (140 + a) 167)) (n := 81) dX2_judge_78 gf_X2_123 (hR.kA ha) (hR.iv (lvA ha) (by decide) (by decide)) rfl ?_
        refine zs_aload_n (n := 82) dX2_judge_81 rfl rfl ?_
        refine zs_getv (x := ((gJ3 S j ((gJ2 S a j (gJ1 a j V)), pl, nx)) (150 + j) 451)) (n := 85) dX2_judge_82 gf_X2_126 (hR.kV hj) (hR.iv (lvV hj) (by decide) (by decide)) rfl ?_
        refine zs_isub (n := 86) dX2_judge_85 rfl ?_
        refine zw_i (r := (140 + a)) (n := 89) dX2_judge_86 pf_X2_judge_123 hR (lvA ha) (hR.kA ha) ⟨rfl, rfl⟩ (by decide) rfl ?_
        intro M hR hv
        have hR : zRp Z Λ (wV S (u2 (gJ3 S j ((gJ2 S a j (gJ1 a j V)), pl, nx)) (140 + a) 167 (((gJ3 S j ((gJ2 S a j (gJ1 a j V)), pl, nx)) (140 + a) 167) - ((gJ3 S j ((gJ2 S a j (gJ1 a j V)), pl, nx)) (150 + j) 451)))) M := hR
        have hP : zPl Λ ((wV S (u2 (gJ3 S j ((gJ2 S a j (gJ1 a j V)), pl, nx)) (140 + a) 167 (((gJ3 S j ((gJ2 S a j (gJ1 a j V)), pl, nx)) (140 + a) 167) - ((gJ3 S j ((gJ2 S a j (gJ1 a j V)), pl, nx)) (150 + j) 451)))), pl, nx) M := zPl.of (T := (wV S (gJ3 S j ((gJ2 S a j (gJ1 a j V)), pl, nx)), pl, nx)) hP hv rfl rfl (fun _ => rfl) (fun _ => rfl)
        refine zs_aload_n (n := 90) dX2_judge_89 rfl rfl ?_
        refine zs_dup (n := 91) dX2_judge_90 rfl rfl ?_
        refine zs_getv (x := ((u2 (gJ3 S j ((gJ2 S a j (gJ1 a j V)), pl, nx)) (140 + a) 167 (((gJ3 S j ((gJ2 S a j (gJ1 a j V)), pl, nx)) (140 + a) 167) - ((gJ3 S j ((gJ2 S a j (gJ1 a j V)), pl, nx)) (150 + j) 451))) 7 232)) (n := 94) dX2_judge_91 gf_X2_129 (hR.kd (lvC h3 (by omega))) (hR.iv (lvC h3 (by omega)) (by decide) (by decide)) rfl ?_
        refine zs_aload_n (n := 95) dX2_judge_94 rfl rfl ?_
        refine zs_getv (x := ((u2 (gJ3 S j ((gJ2 S a j (gJ1 a j V)), pl, nx)) (140 + a) 167 (((gJ3 S j ((gJ2 S a j (gJ1 a j V)), pl, nx)) (140 + a) 167) - ((gJ3 S j ((gJ2 S a j (gJ1 a j V)), pl, nx)) (150 + j) 451))) (150 + j) 451)) (n := 98) dX2_judge_95 gf_X2_126 (hR.kV hj) (hR.iv (lvV hj) (by decide) (by decide)) rfl ?_
        refine zs_iadd (n := 99) dX2_judge_98 rfl ?_
        refine zw_i (r := 7) (n := 102) dX2_judge_99 pf_X2_judge_129 hR (lvC h3 (by omega)) (hR.kd (lvC h3 (by omega))) ⟨rfl, rfl⟩ (by decide) rfl ?_
        intro M hR hv
        have hR : zRp Z Λ (wV S (u2 (u2 (gJ3 S j ((gJ2 S a j (gJ1 a j V)), pl, nx)) (140 + a) 167 (((gJ3 S j ((gJ2 S a j (gJ1 a j V)), pl, nx)) (140 + a) 167) - ((gJ3 S j ((gJ2 S a j (gJ1 a j V)), pl, nx)) (150 + j) 451))) 7 232 (((u2 (gJ3 S j ((gJ2 S a j (gJ1 a j V)), pl, nx)) (140 + a) 167 (((gJ3 S j ((gJ2 S a j (gJ1 a j V)), pl, nx)) (140 + a) 167) - ((gJ3 S j ((gJ2 S a j (gJ1 a j V)), pl, nx)) (150 + j) 451))) 7 232) + ((u2 (gJ3 S j ((gJ2 S a j (gJ1 a j V)), pl, nx)) (140 + a) 167 (((gJ3 S j ((gJ2 S a j (gJ1 a j V)), pl, nx)) (140 + a) 167) - ((gJ3 S j ((gJ2 S a j (gJ1 a j V)), pl, nx)) (150 + j) 451))) (150 + j) 451)))) M := hR
        have hP : zPl Λ ((wV S (u2 (u2 (gJ3 S j ((gJ2 S a j (gJ1 a j V)), pl, nx)) (140 + a) 167 (((gJ3 S j ((gJ2 S a j (gJ1 a j V)), pl, nx)) (140 + a) 167) - ((gJ3 S j ((gJ2 S a j (gJ1 a j V)), pl, nx)) (150 + j) 451))) 7 232 (((u2 (gJ3 S j ((gJ2 S a j (gJ1 a j V)), pl, nx)) (140 + a) 167 (((gJ3 S j ((gJ2 S a j (gJ1 a j V)), pl, nx)) (140 + a) 167) - ((gJ3 S j ((gJ2 S a j (gJ1 a j V)), pl, nx)) (150 + j) 451))) 7 232) + ((u2 (gJ3 S j ((gJ2 S a j (gJ1 a j V)), pl, nx)) (140 + a) 167 (((gJ3 S j ((gJ2 S a j (gJ1 a j V)), pl, nx)) (140 + a) 167) - ((gJ3 S j ((gJ2 S a j (gJ1 a j V)), pl, nx)) (150 + j) 451))) (150 + j) 451)))), pl, nx) M := zPl.of (T := (wV S (u2 (gJ3 S j ((gJ2 S a j (gJ1 a j V)), pl, nx)) (140 + a) 167 (((gJ3 S j ((gJ2 S a j (gJ1 a j V)), pl, nx)) (140 + a) 167) - ((gJ3 S j ((gJ2 S a j (gJ1 a j V)), pl, nx)) (150 + j) 451))), pl, nx)) hP hv rfl rfl (fun _ => rfl) (fun _ => rfl)
        refine zs_return dX2_judge_102 rfl ?_
        exact hQ _ ⟨hR, hP⟩
      · refine zs_aload_n (n := 70) dX2_judge_69 rfl rfl ?_
        refine zs_bipush (v := 100) (n := 72) dX2_judge_70 (by decide) rfl ?_
        refine zs_iconst (v := 5) (n := 73) dX2_judge_72 (by decide) rfl ?_
        refine zg_V (n := 76) (As := [.int (100 : Int32), .int (5 : Int32)]) (ci := 14) (mc := 0) (ms := 0) dX2_judge_73 ok_X9_fine ⟨ml_X2_101, im_X9_fine, sl_X9_fine⟩ rfl (hR.kV hj) rfl (Nat.le_of_ble_eq_true rfl) (by simp) (by omega) (Nat.le_refl _) (Nat.le_refl _) rfl rfl (c_fine hR hP hj ⟨by decide, by decide⟩) ?_
        intro M hR9
        have hR := hR9.1
        have hP := hR9.2
        have hRP : zRq Z Λ S ((gJ3 S j ((gJ2 S a j (gJ1 a j V)), pl, nx)), pl, nx) M := by
          unfold gJ3
          first | (rw [if_pos (zb1.mp h66)]; exact ⟨hR, hP⟩) | (rw [if_neg (by rw [zb0.mp h66]; decide)]; exact ⟨hR, hP⟩)
        have hR := hRP.1
        have hP := hRP.2
        refine zs_aload_n (n := 77) dX2_judge_76 rfl rfl ?_
        refine zs_dup (n := 78) dX2_judge_77 rfl rfl ?_
        refine zs_getv (x := ((gJ3 S j ((gJ2 S a j (gJ1 a j V)), pl, nx)) (140 + a) 167)) (n := 81) dX2_judge_78 gf_X2_123 (hR.kA ha) (hR.iv (lvA ha) (by decide) (by decide)) rfl ?_
        refine zs_aload_n (n := 82) dX2_judge_81 rfl rfl ?_
        refine zs_getv (x := ((gJ3 S j ((gJ2 S a j (gJ1 a j V)), pl, nx)) (150 + j) 451)) (n := 85) dX2_judge_82 gf_X2_126 (hR.kV hj) (hR.iv (lvV hj) (by decide) (by decide)) rfl ?_
        refine zs_isub (n := 86) dX2_judge_85 rfl ?_
        refine zw_i (r := (140 + a)) (n := 89) dX2_judge_86 pf_X2_judge_123 hR (lvA ha) (hR.kA ha) ⟨rfl, rfl⟩ (by decide) rfl ?_
        intro M hR hv
        have hR : zRp Z Λ (wV S (u2 (gJ3 S j ((gJ2 S a j (gJ1 a j V)), pl, nx)) (140 + a) 167 (((gJ3 S j ((gJ2 S a j (gJ1 a j V)), pl, nx)) (140 + a) 167) - ((gJ3 S j ((gJ2 S a j (gJ1 a j V)), pl, nx)) (150 + j) 451)))) M := hR
        have hP : zPl Λ ((wV S (u2 (gJ3 S j ((gJ2 S a j (gJ1 a j V)), pl, nx)) (140 + a) 167 (((gJ3 S j ((gJ2 S a j (gJ1 a j V)), pl, nx)) (140 + a) 167) - ((gJ3 S j ((gJ2 S a j (gJ1 a j V)), pl, nx)) (150 + j) 451)))), pl, nx) M := zPl.of (T := (wV S (gJ3 S j ((gJ2 S a j (gJ1 a j V)), pl, nx)), pl, nx)) hP hv rfl rfl (fun _ => rfl) (fun _ => rfl)
        refine zs_aload_n (n := 90) dX2_judge_89 rfl rfl ?_
        refine zs_dup (n := 91) dX2_judge_90 rfl rfl ?_
        refine zs_getv (x := ((u2 (gJ3 S j ((gJ2 S a j (gJ1 a j V)), pl, nx)) (140 + a) 167 (((gJ3 S j ((gJ2 S a j (gJ1 a j V)), pl, nx)) (140 + a) 167) - ((gJ3 S j ((gJ2 S a j (gJ1 a j V)), pl, nx)) (150 + j) 451))) 7 232)) (n := 94) dX2_judge_91 gf_X2_129 (hR.kd (lvC h3 (by omega))) (hR.iv (lvC h3 (by omega)) (by decide) (by decide)) rfl ?_
        refine zs_aload_n (n := 95) dX2_judge_94 rfl rfl ?_
        refine zs_getv (x := ((u2 (gJ3 S j ((gJ2 S a j (gJ1 a j V)), pl, nx)) (140 + a) 167 (((gJ3 S j ((gJ2 S a j (gJ1 a j V)), pl, nx)) (140 + a) 167) - ((gJ3 S j ((gJ2 S a j (gJ1 a j V)), pl, nx)) (150 + j) 451))) (150 + j) 451)) (n := 98) dX2_judge_95 gf_X2_126 (hR.kV hj) (hR.iv (lvV hj) (by decide) (by decide)) rfl ?_
        refine zs_iadd (n := 99) dX2_judge_98 rfl ?_
        refine zw_i (r := 7) (n := 102) dX2_judge_99 pf_X2_judge_129 hR (lvC h3 (by omega)) (hR.kd (lvC h3 (by omega))) ⟨rfl, rfl⟩ (by decide) rfl ?_
        intro M hR hv
        have hR : zRp Z Λ (wV S (u2 (u2 (gJ3 S j ((gJ2 S a j (gJ1 a j V)), pl, nx)) (140 + a) 167 (((gJ3 S j ((gJ2 S a j (gJ1 a j V)), pl, nx)) (140 + a) 167) - ((gJ3 S j ((gJ2 S a j (gJ1 a j V)), pl, nx)) (150 + j) 451))) 7 232 (((u2 (gJ3 S j ((gJ2 S a j (gJ1 a j V)), pl, nx)) (140 + a) 167 (((gJ3 S j ((gJ2 S a j (gJ1 a j V)), pl, nx)) (140 + a) 167) - ((gJ3 S j ((gJ2 S a j (gJ1 a j V)), pl, nx)) (150 + j) 451))) 7 232) + ((u2 (gJ3 S j ((gJ2 S a j (gJ1 a j V)), pl, nx)) (140 + a) 167 (((gJ3 S j ((gJ2 S a j (gJ1 a j V)), pl, nx)) (140 + a) 167) - ((gJ3 S j ((gJ2 S a j (gJ1 a j V)), pl, nx)) (150 + j) 451))) (150 + j) 451)))) M := hR
        have hP : zPl Λ ((wV S (u2 (u2 (gJ3 S j ((gJ2 S a j (gJ1 a j V)), pl, nx)) (140 + a) 167 (((gJ3 S j ((gJ2 S a j (gJ1 a j V)), pl, nx)) (140 + a) 167) - ((gJ3 S j ((gJ2 S a j (gJ1 a j V)), pl, nx)) (150 + j) 451))) 7 232 (((u2 (gJ3 S j ((gJ2 S a j (gJ1 a j V)), pl, nx)) (140 + a) 167 (((gJ3 S j ((gJ2 S a j (gJ1 a j V)), pl, nx)) (140 + a) 167) - ((gJ3 S j ((gJ2 S a j (gJ1 a j V)), pl, nx)) (150 + j) 451))) 7 232) + ((u2 (gJ3 S j ((gJ2 S a j (gJ1 a j V)), pl, nx)) (140 + a) 167 (((gJ3 S j ((gJ2 S a j (gJ1 a j V)), pl, nx)) (140 + a) 167) - ((gJ3 S j ((gJ2 S a j (gJ1 a j V)), pl, nx)) (150 + j) 451))) (150 + j) 451)))), pl, nx) M := zPl.of (T := (wV S (u2 (gJ3 S j ((gJ2 S a j (gJ1 a j V)), pl, nx)) (140 + a) 167 (((gJ3 S j ((gJ2 S a j (gJ1 a j V)), pl, nx)) (140 + a) 167) - ((gJ3 S j ((gJ2 S a j (gJ1 a j V)), pl, nx)) (150 + j) 451))), pl, nx)) hP hv rfl rfl (fun _ => rfl) (fun _ => rfl)
        refine zs_return dX2_judge_102 rfl ?_
        exact hQ _ ⟨hR, hP⟩
    · refine zs_aload_n (n := 41) dX2_judge_40 rfl rfl ?_
      refine zs_bipush (v := 110) (n := 43) dX2_judge_41 (by decide) rfl ?_
      refine zs_bipush (v := 10) (n := 45) dX2_judge_43 (by decide) rfl ?_
      refine zg_V (n := 48) (As := [.int (110 : Int32), .int (10 : Int32)]) (ci := 14) (mc := 0) (ms := 0) dX2_judge_45 ok_X9_fine ⟨ml_X2_101, im_X9_fine, sl_X9_fine⟩ rfl (hR.kV hj) rfl (Nat.le_of_ble_eq_true rfl) (by simp) (by omega) (Nat.le_refl _) (Nat.le_refl _) rfl rfl (c_fine hR hP hj ⟨by decide, by decide⟩) ?_
      intro M hR9
      have hR := hR9.1
      have hP := hR9.2
      have hRP : zRq Z Λ S ((gJ2 S a j (gJ1 a j V)), pl, nx) M := by
        unfold gJ2
        first | (rw [if_pos h37]; exact ⟨hR, hP⟩) | (rw [if_neg h37]; exact ⟨hR, hP⟩)
      have hR := hRP.1
      have hP := hRP.2
      refine zs_aload_n (n := 49) dX2_judge_48 rfl rfl ?_
      refine zs_getr (b := (Λ 2)) (n := 52) dX2_judge_49 gf_X2_9 (hR.kd (lvC h3 (by omega))) (hR.pt (lvC h3 (by omega)) rfl (by decide)) rfl ?_
      refine zs_aload_n (n := 53) dX2_judge_52 rfl rfl ?_
      refine zs_getr (b := (Λ (100 + (sP (wV S (gJ2 S a j (gJ1 a j V))) j)))) (n := 56) dX2_judge_53 gf_X2_73 (hR.kV hj) (hR.vp hj) rfl ?_
      refine zs_aload_n (n := 57) dX2_judge_56 rfl rfl ?_
      refine zs_getr (b := (Λ 6)) (n := 60) dX2_judge_57 gf_X2_19 (hR.kd (lvC h3 (by omega))) (hR.pt (lvC h3 (by omega)) rfl (by decide)) rfl ?_
      refine zs_getv (x := ((gJ2 S a j (gJ1 a j V)) 6 289)) (n := 63) dX2_judge_60 gf_X2_116 (hR.kd (lvC h3 (by omega))) (hR.iv (lvC h3 (by omega)) (by decide) (by decide)) rfl ?_
      refine zc_V (n := 66) (As := [.ref (Λ (100 + (sP (wV S (gJ2 S a j (gJ1 a j V))) j))), .int ((gJ2 S a j (gJ1 a j V)) 6 289)]) (ci := 12) (mc := 0) (ms := 0) dX2_judge_63 ok_X7_hasPlayingNearer ⟨ml_X2_119, im_X7_hasPlayingNearer, sl_X7_hasPlayingNearer⟩ rfl (hR.kd (lvC h3 (by omega))) rfl (Nat.le_of_ble_eq_true rfl) (by simp) (by omega) (Nat.le_refl _) (Nat.le_refl _) rfl rfl (c_hasPlayingNearer hR hP h3 (hR.vpb hj)) ?_
      refine zs_if_eq (tgt := 76) (n := 69) dX2_judge_66 (by decide) rfl (fun h66 => ?_) (fun h66 => ?_)
      · have hRP : zRq Z Λ S ((gJ3 S j ((gJ2 S a j (gJ1 a j V)), pl, nx)), pl, nx) M := by
          unfold gJ3
          first | (rw [if_pos (zb1.mp h66)]; exact ⟨hR, hP⟩) | (rw [if_neg (by rw [zb0.mp h66]; decide)]; exact ⟨hR, hP⟩)
        have hR := hRP.1
        have hP := hRP.2
        refine zs_aload_n (n := 77) dX2_judge_76 rfl rfl ?_
        refine zs_dup (n := 78) dX2_judge_77 rfl rfl ?_
        refine zs_getv (x := ((gJ3 S j ((gJ2 S a j (gJ1 a j V)), pl, nx)) (140 + a) 167)) (n := 81) dX2_judge_78 gf_X2_123 (hR.kA ha) (hR.iv (lvA ha) (by decide) (by decide)) rfl ?_
        refine zs_aload_n (n := 82) dX2_judge_81 rfl rfl ?_
        refine zs_getv (x := ((gJ3 S j ((gJ2 S a j (gJ1 a j V)), pl, nx)) (150 + j) 451)) (n := 85) dX2_judge_82 gf_X2_126 (hR.kV hj) (hR.iv (lvV hj) (by decide) (by decide)) rfl ?_
        refine zs_isub (n := 86) dX2_judge_85 rfl ?_
        refine zw_i (r := (140 + a)) (n := 89) dX2_judge_86 pf_X2_judge_123 hR (lvA ha) (hR.kA ha) ⟨rfl, rfl⟩ (by decide) rfl ?_
        intro M hR hv
        have hR : zRp Z Λ (wV S (u2 (gJ3 S j ((gJ2 S a j (gJ1 a j V)), pl, nx)) (140 + a) 167 (((gJ3 S j ((gJ2 S a j (gJ1 a j V)), pl, nx)) (140 + a) 167) - ((gJ3 S j ((gJ2 S a j (gJ1 a j V)), pl, nx)) (150 + j) 451)))) M := hR
        have hP : zPl Λ ((wV S (u2 (gJ3 S j ((gJ2 S a j (gJ1 a j V)), pl, nx)) (140 + a) 167 (((gJ3 S j ((gJ2 S a j (gJ1 a j V)), pl, nx)) (140 + a) 167) - ((gJ3 S j ((gJ2 S a j (gJ1 a j V)), pl, nx)) (150 + j) 451)))), pl, nx) M := zPl.of (T := (wV S (gJ3 S j ((gJ2 S a j (gJ1 a j V)), pl, nx)), pl, nx)) hP hv rfl rfl (fun _ => rfl) (fun _ => rfl)
        refine zs_aload_n (n := 90) dX2_judge_89 rfl rfl ?_
        refine zs_dup (n := 91) dX2_judge_90 rfl rfl ?_
        refine zs_getv (x := ((u2 (gJ3 S j ((gJ2 S a j (gJ1 a j V)), pl, nx)) (140 + a) 167 (((gJ3 S j ((gJ2 S a j (gJ1 a j V)), pl, nx)) (140 + a) 167) - ((gJ3 S j ((gJ2 S a j (gJ1 a j V)), pl, nx)) (150 + j) 451))) 7 232)) (n := 94) dX2_judge_91 gf_X2_129 (hR.kd (lvC h3 (by omega))) (hR.iv (lvC h3 (by omega)) (by decide) (by decide)) rfl ?_
        refine zs_aload_n (n := 95) dX2_judge_94 rfl rfl ?_
        refine zs_getv (x := ((u2 (gJ3 S j ((gJ2 S a j (gJ1 a j V)), pl, nx)) (140 + a) 167 (((gJ3 S j ((gJ2 S a j (gJ1 a j V)), pl, nx)) (140 + a) 167) - ((gJ3 S j ((gJ2 S a j (gJ1 a j V)), pl, nx)) (150 + j) 451))) (150 + j) 451)) (n := 98) dX2_judge_95 gf_X2_126 (hR.kV hj) (hR.iv (lvV hj) (by decide) (by decide)) rfl ?_
        refine zs_iadd (n := 99) dX2_judge_98 rfl ?_
        refine zw_i (r := 7) (n := 102) dX2_judge_99 pf_X2_judge_129 hR (lvC h3 (by omega)) (hR.kd (lvC h3 (by omega))) ⟨rfl, rfl⟩ (by decide) rfl ?_
        intro M hR hv
        have hR : zRp Z Λ (wV S (u2 (u2 (gJ3 S j ((gJ2 S a j (gJ1 a j V)), pl, nx)) (140 + a) 167 (((gJ3 S j ((gJ2 S a j (gJ1 a j V)), pl, nx)) (140 + a) 167) - ((gJ3 S j ((gJ2 S a j (gJ1 a j V)), pl, nx)) (150 + j) 451))) 7 232 (((u2 (gJ3 S j ((gJ2 S a j (gJ1 a j V)), pl, nx)) (140 + a) 167 (((gJ3 S j ((gJ2 S a j (gJ1 a j V)), pl, nx)) (140 + a) 167) - ((gJ3 S j ((gJ2 S a j (gJ1 a j V)), pl, nx)) (150 + j) 451))) 7 232) + ((u2 (gJ3 S j ((gJ2 S a j (gJ1 a j V)), pl, nx)) (140 + a) 167 (((gJ3 S j ((gJ2 S a j (gJ1 a j V)), pl, nx)) (140 + a) 167) - ((gJ3 S j ((gJ2 S a j (gJ1 a j V)), pl, nx)) (150 + j) 451))) (150 + j) 451)))) M := hR
        have hP : zPl Λ ((wV S (u2 (u2 (gJ3 S j ((gJ2 S a j (gJ1 a j V)), pl, nx)) (140 + a) 167 (((gJ3 S j ((gJ2 S a j (gJ1 a j V)), pl, nx)) (140 + a) 167) - ((gJ3 S j ((gJ2 S a j (gJ1 a j V)), pl, nx)) (150 + j) 451))) 7 232 (((u2 (gJ3 S j ((gJ2 S a j (gJ1 a j V)), pl, nx)) (140 + a) 167 (((gJ3 S j ((gJ2 S a j (gJ1 a j V)), pl, nx)) (140 + a) 167) - ((gJ3 S j ((gJ2 S a j (gJ1 a j V)), pl, nx)) (150 + j) 451))) 7 232) + ((u2 (gJ3 S j ((gJ2 S a j (gJ1 a j V)), pl, nx)) (140 + a) 167 (((gJ3 S j ((gJ2 S a j (gJ1 a j V)), pl, nx)) (140 + a) 167) - ((gJ3 S j ((gJ2 S a j (gJ1 a j V)), pl, nx)) (150 + j) 451))) (150 + j) 451)))), pl, nx) M := zPl.of (T := (wV S (u2 (gJ3 S j ((gJ2 S a j (gJ1 a j V)), pl, nx)) (140 + a) 167 (((gJ3 S j ((gJ2 S a j (gJ1 a j V)), pl, nx)) (140 + a) 167) - ((gJ3 S j ((gJ2 S a j (gJ1 a j V)), pl, nx)) (150 + j) 451))), pl, nx)) hP hv rfl rfl (fun _ => rfl) (fun _ => rfl)
        refine zs_return dX2_judge_102 rfl ?_
        exact hQ _ ⟨hR, hP⟩
      · refine zs_aload_n (n := 70) dX2_judge_69 rfl rfl ?_
        refine zs_bipush (v := 100) (n := 72) dX2_judge_70 (by decide) rfl ?_
        refine zs_iconst (v := 5) (n := 73) dX2_judge_72 (by decide) rfl ?_
        refine zg_V (n := 76) (As := [.int (100 : Int32), .int (5 : Int32)]) (ci := 14) (mc := 0) (ms := 0) dX2_judge_73 ok_X9_fine ⟨ml_X2_101, im_X9_fine, sl_X9_fine⟩ rfl (hR.kV hj) rfl (Nat.le_of_ble_eq_true rfl) (by simp) (by omega) (Nat.le_refl _) (Nat.le_refl _) rfl rfl (c_fine hR hP hj ⟨by decide, by decide⟩) ?_
        intro M hR9
        have hR := hR9.1
        have hP := hR9.2
        have hRP : zRq Z Λ S ((gJ3 S j ((gJ2 S a j (gJ1 a j V)), pl, nx)), pl, nx) M := by
          unfold gJ3
          first | (rw [if_pos (zb1.mp h66)]; exact ⟨hR, hP⟩) | (rw [if_neg (by rw [zb0.mp h66]; decide)]; exact ⟨hR, hP⟩)
        have hR := hRP.1
        have hP := hRP.2
        refine zs_aload_n (n := 77) dX2_judge_76 rfl rfl ?_
        refine zs_dup (n := 78) dX2_judge_77 rfl rfl ?_
        refine zs_getv (x := ((gJ3 S j ((gJ2 S a j (gJ1 a j V)), pl, nx)) (140 + a) 167)) (n := 81) dX2_judge_78 gf_X2_123 (hR.kA ha) (hR.iv (lvA ha) (by decide) (by decide)) rfl ?_
        refine zs_aload_n (n := 82) dX2_judge_81 rfl rfl ?_
        refine zs_getv (x := ((gJ3 S j ((gJ2 S a j (gJ1 a j V)), pl, nx)) (150 + j) 451)) (n := 85) dX2_judge_82 gf_X2_126 (hR.kV hj) (hR.iv (lvV hj) (by decide) (by decide)) rfl ?_
        refine zs_isub (n := 86) dX2_judge_85 rfl ?_
        refine zw_i (r := (140 + a)) (n := 89) dX2_judge_86 pf_X2_judge_123 hR (lvA ha) (hR.kA ha) ⟨rfl, rfl⟩ (by decide) rfl ?_
        intro M hR hv
        have hR : zRp Z Λ (wV S (u2 (gJ3 S j ((gJ2 S a j (gJ1 a j V)), pl, nx)) (140 + a) 167 (((gJ3 S j ((gJ2 S a j (gJ1 a j V)), pl, nx)) (140 + a) 167) - ((gJ3 S j ((gJ2 S a j (gJ1 a j V)), pl, nx)) (150 + j) 451)))) M := hR
        have hP : zPl Λ ((wV S (u2 (gJ3 S j ((gJ2 S a j (gJ1 a j V)), pl, nx)) (140 + a) 167 (((gJ3 S j ((gJ2 S a j (gJ1 a j V)), pl, nx)) (140 + a) 167) - ((gJ3 S j ((gJ2 S a j (gJ1 a j V)), pl, nx)) (150 + j) 451)))), pl, nx) M := zPl.of (T := (wV S (gJ3 S j ((gJ2 S a j (gJ1 a j V)), pl, nx)), pl, nx)) hP hv rfl rfl (fun _ => rfl) (fun _ => rfl)
        refine zs_aload_n (n := 90) dX2_judge_89 rfl rfl ?_
        refine zs_dup (n := 91) dX2_judge_90 rfl rfl ?_
        refine zs_getv (x := ((u2 (gJ3 S j ((gJ2 S a j (gJ1 a j V)), pl, nx)) (140 + a) 167 (((gJ3 S j ((gJ2 S a j (gJ1 a j V)), pl, nx)) (140 + a) 167) - ((gJ3 S j ((gJ2 S a j (gJ1 a j V)), pl, nx)) (150 + j) 451))) 7 232)) (n := 94) dX2_judge_91 gf_X2_129 (hR.kd (lvC h3 (by omega))) (hR.iv (lvC h3 (by omega)) (by decide) (by decide)) rfl ?_
        refine zs_aload_n (n := 95) dX2_judge_94 rfl rfl ?_
        refine zs_getv (x := ((u2 (gJ3 S j ((gJ2 S a j (gJ1 a j V)), pl, nx)) (140 + a) 167 (((gJ3 S j ((gJ2 S a j (gJ1 a j V)), pl, nx)) (140 + a) 167) - ((gJ3 S j ((gJ2 S a j (gJ1 a j V)), pl, nx)) (150 + j) 451))) (150 + j) 451)) (n := 98) dX2_judge_95 gf_X2_126 (hR.kV hj) (hR.iv (lvV hj) (by decide) (by decide)) rfl ?_
        refine zs_iadd (n := 99) dX2_judge_98 rfl ?_
        refine zw_i (r := 7) (n := 102) dX2_judge_99 pf_X2_judge_129 hR (lvC h3 (by omega)) (hR.kd (lvC h3 (by omega))) ⟨rfl, rfl⟩ (by decide) rfl ?_
        intro M hR hv
        have hR : zRp Z Λ (wV S (u2 (u2 (gJ3 S j ((gJ2 S a j (gJ1 a j V)), pl, nx)) (140 + a) 167 (((gJ3 S j ((gJ2 S a j (gJ1 a j V)), pl, nx)) (140 + a) 167) - ((gJ3 S j ((gJ2 S a j (gJ1 a j V)), pl, nx)) (150 + j) 451))) 7 232 (((u2 (gJ3 S j ((gJ2 S a j (gJ1 a j V)), pl, nx)) (140 + a) 167 (((gJ3 S j ((gJ2 S a j (gJ1 a j V)), pl, nx)) (140 + a) 167) - ((gJ3 S j ((gJ2 S a j (gJ1 a j V)), pl, nx)) (150 + j) 451))) 7 232) + ((u2 (gJ3 S j ((gJ2 S a j (gJ1 a j V)), pl, nx)) (140 + a) 167 (((gJ3 S j ((gJ2 S a j (gJ1 a j V)), pl, nx)) (140 + a) 167) - ((gJ3 S j ((gJ2 S a j (gJ1 a j V)), pl, nx)) (150 + j) 451))) (150 + j) 451)))) M := hR
        have hP : zPl Λ ((wV S (u2 (u2 (gJ3 S j ((gJ2 S a j (gJ1 a j V)), pl, nx)) (140 + a) 167 (((gJ3 S j ((gJ2 S a j (gJ1 a j V)), pl, nx)) (140 + a) 167) - ((gJ3 S j ((gJ2 S a j (gJ1 a j V)), pl, nx)) (150 + j) 451))) 7 232 (((u2 (gJ3 S j ((gJ2 S a j (gJ1 a j V)), pl, nx)) (140 + a) 167 (((gJ3 S j ((gJ2 S a j (gJ1 a j V)), pl, nx)) (140 + a) 167) - ((gJ3 S j ((gJ2 S a j (gJ1 a j V)), pl, nx)) (150 + j) 451))) 7 232) + ((u2 (gJ3 S j ((gJ2 S a j (gJ1 a j V)), pl, nx)) (140 + a) 167 (((gJ3 S j ((gJ2 S a j (gJ1 a j V)), pl, nx)) (140 + a) 167) - ((gJ3 S j ((gJ2 S a j (gJ1 a j V)), pl, nx)) (150 + j) 451))) (150 + j) 451)))), pl, nx) M := zPl.of (T := (wV S (u2 (gJ3 S j ((gJ2 S a j (gJ1 a j V)), pl, nx)) (140 + a) 167 (((gJ3 S j ((gJ2 S a j (gJ1 a j V)), pl, nx)) (140 + a) 167) - ((gJ3 S j ((gJ2 S a j (gJ1 a j V)), pl, nx)) (150 + j) 451))), pl, nx)) hP hv rfl rfl (fun _ => rfl) (fun _ => rfl)
        refine zs_return dX2_judge_102 rfl ?_
        exact hQ _ ⟨hR, hP⟩
def gVis (S : zSt) (m j : Nat) (t : zVp) : zVp := match t.2.1 (sP S j) with
  | none => t
  | some k => if t.1 (150 + j) 449 = nI m then gJudge S (sT S (sP S j) k) j t else t
def gVisAll (S : zSt) (m j : Nat) (t : zVp) : zVp := zit (fun j t => gVis S m j t) j t
theorem c_payVisits {m : Nat} (hR : zRp Z Λ (wV S V) M) (hP : zPl Λ (wV S V, pl, nx) M) (h3 : sc S 3 = 1) : zG Z l 5 mth_X2_payVisits [.ref (Λ 7), .int (nI m)] M 0 0 none (zRq Z Λ S (gVisAll S m (sc S 2) (V, pl, nx))) := by
  intro Q hQ
  show zX Z l 5 mth_X2_payVisits 0 [(0, .ref (Λ 7)), (1, .int (nI m))] [] M 0 0 Q
  refine zs_iconst (v := 0) (n := 1) dX2_payVisits_0 (by decide) rfl ?_
  refine zs_istore_n (n := 2) dX2_payVisits_1 (by decide) rfl ?_
  refine zX.sub (L' := [(0, .ref (Λ 7)), (1, .int (nI m)), (2, .int (nI 0))]) ⟨rfl, rfl, rfl, trivial⟩ ?_
  refine zloop (n := sc S 2) (X := fun j => ∀ M, zRq Z Λ S (gVisAll S m j (V, pl, nx)) M → zX Z l 5 mth_X2_payVisits 2 [(0, .ref (Λ 7)), (1, .int (nI m)), (2, .int (nI j))] [] M 0 0 Q) (fun j hj ih => ?_) ?_ 0 (Nat.zero_le _) M ?_
  · intro M hR9
    have hR := hR9.1
    have hP := hR9.2
    have hb : sc S 2 ≤ _ := hR.bnd.1.2.2.1
    refine zs_iload_n (n := 3) dX2_payVisits_2 rfl rfl ?_
    refine zs_aload_n (n := 4) dX2_payVisits_3 rfl rfl ?_
    refine zs_getr (b := (Λ 19)) (n := 7) dX2_payVisits_4 gf_X2_26 (hR.kd (lvC h3 (by omega))) (hR.pt (lvC h3 (by omega)) rfl (by decide)) rfl ?_
    refine zc_size (c := sc S 2) (n := 10) dX2_payVisits_7 ml_X2_63 (hR.lV h3) (by simp) (by omega) rfl ?_
    refine zs_icmp_ge (tgt := 63) (n := 13) dX2_payVisits_10 (by decide) rfl (fun h => absurd h (nI_ge hj (by omega))) (fun _ => ?_)
    refine zs_aload_n (n := 14) dX2_payVisits_13 rfl rfl ?_
    refine zs_getr (b := (Λ 19)) (n := 17) dX2_payVisits_14 gf_X2_26 (hR.kd (lvC h3 (by omega))) (hR.pt (lvC h3 (by omega)) rfl (by decide)) rfl ?_
    refine zs_iload_n (n := 18) dX2_payVisits_17 rfl rfl ?_
    refine zc_getb (c := sc S 2) (b := (Λ (150 + j))) (n := 21) dX2_payVisits_18 ml_X2_67 (hR.lV h3) hj rfl (by simp) (by omega) rfl ?_
    refine zs_castS (ci := 14) (n := 24) dX2_payVisits_21 rfl cl_X2_71 (hR.kV hj) rfl ?_
    refine zs_astore_n (n := 25) dX2_payVisits_24 (by decide) rfl ?_
    refine zs_aload_n (n := 26) dX2_payVisits_25 rfl rfl ?_
    refine zs_getr (b := (Λ (100 + (sP (wV S (gVisAll S m j (V, pl, nx)).1) j)))) (n := 29) dX2_payVisits_26 gf_X2_73 (hR.kV hj) (hR.vp hj) rfl ?_
    rcases zopt ((gVisAll S m j (V, pl, nx)).2.1 (sP (wV S (gVisAll S m j (V, pl, nx)).1) j)) with hpl29 | ⟨k29, hpl29⟩
    · refine zs_getN (n := 32) dX2_payVisits_29 gf_X2_77 (hR.kP (hR.vpb hj)) (((hP.1 _ (hR.vpb hj)).1.1).trans (by show ((gVisAll S m j (V, pl, nx)).2.1 (sP (wV S (gVisAll S m j (V, pl, nx)).1) j)).map _ = _; rw [hpl29]; rfl)) rfl ?_
      refine zs_astoreN (n := 34) dX2_payVisits_32 (by decide) rfl ?_
      refine zs_aload_n (n := 35) dX2_payVisits_34 rfl rfl ?_
      refine zs_getv (x := ((gVisAll S m j (V, pl, nx)).1 (150 + j) 449)) (n := 38) dX2_payVisits_35 gf_X2_83 (hR.kV hj) (hR.iv (lvV hj) (by decide) (by decide)) rfl ?_
      refine zs_iload_n (n := 39) dX2_payVisits_38 rfl rfl ?_
      refine zs_icmp_ne (tgt := 57) (n := 42) dX2_payVisits_39 (by decide) rfl (fun h39 => ?_) (fun h39 => ?_)
      · refine zs_iinc (v := (nI (j + 1))) (n := 60) dX2_payVisits_57 rfl (nI_1 _) (by decide) rfl ?_
        refine zs_goto (tgt := 2) dX2_payVisits_60 (by decide) ?_
        refine zX.sub (L' := [(0, .ref (Λ 7)), (1, .int (nI m)), (2, .int (nI (j + 1)))]) ⟨rfl, rfl, rfl, trivial⟩ ?_
        refine ih M ?_
        show zRq Z Λ S (gVis S m j (gVisAll S m j (V, pl, nx))) M
        unfold gVis
        simp only [hpl29]
        first | exact ⟨hR, hP⟩ | (rw [if_neg h39]; exact ⟨hR, hP⟩) | (rw [if_pos h39]; exact ⟨hR, hP⟩)
      · refine zs_aloadN (n := 44) dX2_payVisits_42 rfl rfl ?_
        refine zs_ifnullN (tgt := 57) dX2_payVisits_44 (by decide) ?_
        refine zs_iinc (v := (nI (j + 1))) (n := 60) dX2_payVisits_57 rfl (nI_1 _) (by decide) rfl ?_
        refine zs_goto (tgt := 2) dX2_payVisits_60 (by decide) ?_
        refine zX.sub (L' := [(0, .ref (Λ 7)), (1, .int (nI m)), (2, .int (nI (j + 1)))]) ⟨rfl, rfl, rfl, trivial⟩ ?_
        refine ih M ?_
        show zRq Z Λ S (gVis S m j (gVisAll S m j (V, pl, nx))) M
        unfold gVis
        simp only [hpl29]
        first | exact ⟨hR, hP⟩ | (rw [if_neg h39]; exact ⟨hR, hP⟩) | (rw [if_pos h39]; exact ⟨hR, hP⟩)
    · have hk29 := (hP.1 _ (hR.vpb hj)).1.2 k29 hpl29
      refine zs_getr (b := (Λ (160 + 8 * (sP (wV S (gVisAll S m j (V, pl, nx)).1) j) + k29))) (n := 32) dX2_payVisits_29 gf_X2_77 (hR.kP (hR.vpb hj)) (((hP.1 _ (hR.vpb hj)).1.1).trans (by show ((gVisAll S m j (V, pl, nx)).2.1 (sP (wV S (gVisAll S m j (V, pl, nx)).1) j)).map _ = _; rw [hpl29]; rfl)) rfl ?_
      refine zs_astore (n := 34) dX2_payVisits_32 (by decide) rfl ?_
      refine zs_aload_n (n := 35) dX2_payVisits_34 rfl rfl ?_
      refine zs_getv (x := ((gVisAll S m j (V, pl, nx)).1 (150 + j) 449)) (n := 38) dX2_payVisits_35 gf_X2_83 (hR.kV hj) (hR.iv (lvV hj) (by decide) (by decide)) rfl ?_
      refine zs_iload_n (n := 39) dX2_payVisits_38 rfl rfl ?_
      refine zs_icmp_ne (tgt := 57) (n := 42) dX2_payVisits_39 (by decide) rfl (fun h39 => ?_) (fun h39 => ?_)
      · refine zs_iinc (v := (nI (j + 1))) (n := 60) dX2_payVisits_57 rfl (nI_1 _) (by decide) rfl ?_
        refine zs_goto (tgt := 2) dX2_payVisits_60 (by decide) ?_
        refine zX.sub (L' := [(0, .ref (Λ 7)), (1, .int (nI m)), (2, .int (nI (j + 1)))]) ⟨rfl, rfl, rfl, trivial⟩ ?_
        refine ih M ?_
        show zRq Z Λ S (gVis S m j (gVisAll S m j (V, pl, nx))) M
        unfold gVis
        simp only [hpl29]
        first | exact ⟨hR, hP⟩ | (rw [if_neg h39]; exact ⟨hR, hP⟩) | (rw [if_pos h39]; exact ⟨hR, hP⟩)
      · refine zs_aload (n := 44) dX2_payVisits_42 rfl rfl ?_
        refine zs_ifnull (n := 47) dX2_payVisits_44 rfl ?_
        refine zs_aload_n (n := 48) dX2_payVisits_47 rfl rfl ?_
        refine zs_aload_n (n := 49) dX2_payVisits_48 rfl rfl ?_
        refine zs_aload (n := 51) dX2_payVisits_49 rfl rfl ?_
        refine zs_getr (b := (Λ (140 + (sT (wV S (gVisAll S m j (V, pl, nx)).1) (sP (wV S (gVisAll S m j (V, pl, nx)).1) j) k29)))) (n := 54) dX2_payVisits_51 gf_X2_86 (hR.kK (hR.vpb hj) hk29) (hR.act (hR.vpb hj) hk29) rfl ?_
        refine zg_V (n := 57) (As := [.ref (Λ (150 + j)), .ref (Λ (140 + (sT (wV S (gVisAll S m j (V, pl, nx)).1) (sP (wV S (gVisAll S m j (V, pl, nx)).1) j) k29)))]) (ci := 7) (mc := 0) (ms := 0) dX2_payVisits_54 ok_X2_judge ⟨ml_X2_92, im_X2_judge, sl_X2_judge⟩ rfl (hR.kd (lvC h3 (by omega))) rfl (Nat.le_of_ble_eq_true rfl) (by simp) (by omega) (Nat.le_refl _) (Nat.le_refl _) rfl rfl (c_judge hR hP h3 hj (hR.actb (hR.vpb hj) hk29)) ?_
        intro M hR9
        have hR := hR9.1
        have hP := hR9.2
        refine zs_iinc (v := (nI (j + 1))) (n := 60) dX2_payVisits_57 rfl (nI_1 _) (by decide) rfl ?_
        refine zs_goto (tgt := 2) dX2_payVisits_60 (by decide) ?_
        refine zX.sub (L' := [(0, .ref (Λ 7)), (1, .int (nI m)), (2, .int (nI (j + 1)))]) ⟨rfl, rfl, rfl, trivial⟩ ?_
        refine ih M ?_
        show zRq Z Λ S (gVis S m j (gVisAll S m j (V, pl, nx))) M
        unfold gVis
        simp only [hpl29]
        first | exact ⟨hR, hP⟩ | (rw [if_neg h39]; exact ⟨hR, hP⟩) | (rw [if_pos h39]; exact ⟨hR, hP⟩)
  · intro M hR9
    have hR := hR9.1
    have hP := hR9.2
    have hb : sc S 2 ≤ _ := hR.bnd.1.2.2.1
    refine zs_iload_n (n := 3) dX2_payVisits_2 rfl rfl ?_
    refine zs_aload_n (n := 4) dX2_payVisits_3 rfl rfl ?_
    refine zs_getr (b := (Λ 19)) (n := 7) dX2_payVisits_4 gf_X2_26 (hR.kd (lvC h3 (by omega))) (hR.pt (lvC h3 (by omega)) rfl (by decide)) rfl ?_
    refine zc_size (c := sc S 2) (n := 10) dX2_payVisits_7 ml_X2_63 (hR.lV h3) (by simp) (by omega) rfl ?_
    refine zs_icmp_ge (tgt := 63) (n := 13) dX2_payVisits_10 (by decide) rfl (fun _ => ?_) (fun h => absurd (nI_le (Nat.le_refl _) (by omega)) h)
    refine zs_return dX2_payVisits_63 rfl ?_
    exact hQ _ hR9
  · exact ⟨hR, hP⟩
end ZPLAY3
