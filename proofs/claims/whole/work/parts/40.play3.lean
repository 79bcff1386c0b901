/-! PLAY, at last: fines, visits, gathering, the day -/
section ZPLAY3
variable {Z : zPar} {l : Launch} {Λ : Nat → Nat} {S : zSt} {M : zMem} {V : Nat → Nat → Int32} {pl : Nat → Option Nat} {nx : Nat → Nat}
theorem m_fine {v : Nat} {w x : Int32} (hK : mK M v = 24) (hw : zCh w) (hy : zCh (vI M v 450)) : zD Z l 0 mth_X9_fine [.ref v, .int w, .int x] M 0 0 none (sI (sI M v 450 (if vI M v 450 = 45 then w else vI M v 450)) v 451 (vI M v 451 + x)) := by
  intro Q hQ
  show zX Z l 0 mth_X9_fine 0 [(0, .ref v), (1, .int w), (2, .int x)] [] M 0 0 Q
  refine zs_aload_n (n := 1) dX9_fine_0 rfl rfl ?_
  refine zs_aload_n (n := 2) dX9_fine_1 rfl rfl ?_
  refine zs_geti (n := 5) dX9_fine_2 gf_X9_17 (by assumption) rfl ?_
  refine zs_bipush (v := 45) (n := 7) dX9_fine_5 (by decide) rfl ?_
  refine zs_icmp_ne (tgt := 14) (n := 10) dX9_fine_7 (by decide) rfl (fun h7 => ?_) (fun h7 => ?_)
  · refine zs_aload_n (n := 15) dX9_fine_14 rfl rfl ?_
    refine zs_geti (n := 18) dX9_fine_15 gf_X9_17 (by assumption) rfl ?_
    refine zs_puti (n := 21) dX9_fine_18 pf_X9_fine_17 (by assumption) (by first | exact hw | exact hy) rfl ?_
    refine zs_aload_n (n := 22) dX9_fine_21 rfl rfl ?_
    refine zs_dup (n := 23) dX9_fine_22 rfl rfl ?_
    refine zs_geti (n := 26) dX9_fine_23 gf_X9_21 (by assumption) rfl ?_
    refine zs_iload_n (n := 27) dX9_fine_26 rfl rfl ?_
    refine zs_iadd (n := 28) dX9_fine_27 rfl ?_
    refine zs_puti (n := 31) dX9_fine_28 pf_X9_fine_21 (by assumption) ⟨rfl, rfl⟩ rfl ?_
    refine zs_return dX9_fine_31 rfl ?_
    first | (rw [if_pos h7] at hQ; exact hQ) | (rw [if_neg h7] at hQ; exact hQ)
  · refine zs_iload_n (n := 11) dX9_fine_10 rfl rfl ?_
    refine zs_goto (tgt := 18) dX9_fine_11 (by decide) ?_
    refine zs_puti (n := 21) dX9_fine_18 pf_X9_fine_17 (by assumption) (by first | exact hw | exact hy) rfl ?_
    refine zs_aload_n (n := 22) dX9_fine_21 rfl rfl ?_
    refine zs_dup (n := 23) dX9_fine_22 rfl rfl ?_
    refine zs_geti (n := 26) dX9_fine_23 gf_X9_21 (by assumption) rfl ?_
    refine zs_iload_n (n := 27) dX9_fine_26 rfl rfl ?_
    refine zs_iadd (n := 28) dX9_fine_27 rfl ?_
    refine zs_puti (n := 31) dX9_fine_28 pf_X9_fine_21 (by assumption) ⟨rfl, rfl⟩ rfl ?_
    refine zs_return dX9_fine_31 rfl ?_
    first | (rw [if_pos h7] at hQ; exact hQ) | (rw [if_neg h7] at hQ; exact hQ)
theorem c_fine {j : Nat} {w x : Int32} (hR : zRp Z Λ (wV S V) M) (hP : zPl Λ (wV S V, pl, nx) M) (hj : j < sc S 2) (hw : zCh w) : zG Z l 0 mth_X9_fine [.ref (Λ (150 + j)), .int w, .int x] M 0 0 none (zRq Z Λ S (fFine V (150 + j) w x, pl, nx)) := by
  intro Q hQ
  have hl : zlv (sc S) (150 + j) := lvV hj
  have e1 : vI M (Λ (150 + j)) 450 = V (150 + j) 450 := hR.iv hl (by decide) (by decide)
  have e2 : vI M (Λ (150 + j)) 451 = V (150 + j) 451 := hR.iv hl (by decide) (by decide)
  refine m_fine (hR.kV hj) hw (by rw [e1]; exact hP.2 j hj) Q (hQ _ ?_)
  rw [e1, e2]
  refine ⟨(hR.sI (k := 450) hl (by decide) (by decide) (by decide)).sI (k := 451) hl (by decide) (by decide) (by decide), hP.1, fun q hq => ?_⟩
  show zCh (u2 V (150 + j) 450 (if V (150 + j) 450 = 45 then w else V (150 + j) 450) (150 + q) 450)
  unfold u2
  split
  · split
    · exact hw
    · exact hP.2 j hj
  · exact hP.2 q hq
def gJ1 (a j : Nat) (V : Nat → Nat → Int32) : Nat → Nat → Int32 := if gFire (140 + a) V = true then fFine V (150 + j) 102 20 else V
def gJ2 (S : zSt) (a j : Nat) (V : Nat → Nat → Int32) : Nat → Nat → Int32 := if 10 * V (140 + a) 162 + V (100 + sP S j) 353 ≤ V 6 288 then V else fFine V (150 + j) 110 10
def gJ3 (S : zSt) (j : Nat) (t : zVp) : Nat → Nat → Int32 := if gNear S (sP S j) (t.1 6 289) t = true then fFine t.1 (150 + j) 100 5 else t.1
def gJ4 (a j : Nat) (V : Nat → Nat → Int32) : Nat → Nat → Int32 := u2 (u2 V (140 + a) 167 (V (140 + a) 167 - V (150 + j) 451)) 7 232 (V 7 232 + V (150 + j) 451)
def gJudge (S : zSt) (a j : Nat) (t : zVp) : zVp := (gJ4 a j (gJ3 S j (gJ2 S a j (gJ1 a j t.1), t.2.1, t.2.2)), t.2.1, t.2.2)
theorem c_judge {a j : Nat} (hR : zRp Z Λ (wV S V) M) (hP : zPl Λ (wV S V, pl, nx) M) (h3 : sc S 3 = 1)(hj : j < sc S 2) (ha : a < sc S 1) : zG Z l 4 mth_X2_judge [.ref (Λ 7), .ref (Λ (150 + j)), .ref (Λ (140 + a))] M 0 0 none (zRq Z Λ S (gJudge S a j (V, pl, nx))) := by
  intro Q hQ
  show zX Z l 4 mth_X2_judge 0 [(0, .ref (Λ 7)), (1, .ref (Λ (150 + j))), (2, .ref (Λ (140 + a)))] [] M 0 0 Q
  refine zs_aload_n (n := 1) dX2_judge_0 rfl rfl ?_
  refine zc_V (n := 4) (As := []) (ci := 5) (mc := 0) (ms := 0) dX2_judge_1 ok_X0_isUnlawfulFire ⟨ml_X2_96, im_X0_isUnlawfulFire, sl_X0_isUnlawfulFire⟩ rfl (hR.kA ha) rfl (Nat.le_of_ble_eq_true rfl) (by simp) (by omega) (Nat.le_refl _) (Nat.le_refl _) rfl rfl (c_isUnlawfulFire hR ha) ?_
  refine zs_if_eq (tgt := 15) (n := 7) dX2_judge_4 (by decide) rfl (fun h4 => ?_) (fun h4 => ?_)
  · have hRP : zRq Z Λ S ((gJ1 a j V), pl, nx) M := by
      unfold gJ1
      first | (rw [if_pos (zb1.mp h4)]; exact ⟨hR, hP⟩) | (rw [if_neg (by rw [zb0.mp h4]; decide)]; exact ⟨hR, hP⟩)
    have hR := hRP.1
    have hP := hRP.2
    refine zs_bipush (v := 10) (n := 17) dX2_judge_15 (by decide) rfl ?_
    refine zs_aload_n (n := 18) dX2_judge_17 rfl rfl ?_
    refine zs_getv (x := ((gJ1 a j V) (140 + a) 162)) (n := 21) dX2_judge_18 gf_X2_105 (hR.kA ha) (hR.iv (lvA ha) (by decide) (by decide)) rfl ?_
    refine zs_imul (n := 22) dX2_judge_21 rfl ?_
    refine zs_aload_n (n := 23) dX2_judge_22 rfl rfl ?_
    refine zs_getr (b := (Λ (100 + (sP (wV S (gJ1 a j V)) j)))) (n := 26) dX2_judge_23 gf_X2_73 (hR.kV hj) (hR.vp hj) rfl ?_
    refine zs_getv (x := ((gJ1 a j V) (100 + (sP (wV S (gJ1 a j V)) j)) 353)) (n := 29) dX2_judge_26 gf_X2_108 (hR.kP (hR.vpb hj)) (hR.iv (lvP (hR.vpb hj)) (by decide) (by decide)) rfl ?_
    refine zs_iadd (n := 30) dX2_judge_29 rfl ?_
    refine zs_aload_n (n := 31) dX2_judge_30 rfl rfl ?_
    refine zs_getr (b := (Λ 6)) (n := 34) dX2_judge_31 gf_X2_19 (hR.kd (lvC h3 (by omega))) (hR.pt (lvC h3 (by omega)) rfl (by decide)) rfl ?_
    refine zs_getv (x := ((gJ1 a j V) 6 288)) (n := 37) dX2_judge_34 gf_X2_111 (hR.kd (lvC h3 (by omega))) (hR.iv (lvC h3 (by omega)) (by decide) (by decide)) rfl ?_
    refine zs_icmp_le (tgt := 48) (n := 40) dX2_judge_37 (by decide) rfl (fun h37 => ?_) (fun h37 => ?_)
    · have hRP : zRq Z Λ S ((gJ2 S a j (gJ1 a j V)), pl, nx) M := by
        unfold gJ2
        first | (rw [if_pos h37]; exact ⟨hR, hP⟩) | (rw [if_neg h37]; exact ⟨hR, hP⟩)
      have hR := hRP.1
      have hP := hRP.2
      refine zs_aload_n (n := 49) dX2_judge_48 rfl rfl ?_
      refine zs_getr (b := (Λ 2)) (n := 52) dX2_judge_49 gf_X2_9 (hR.kd (lvC h3 (by omega))) (hR.pt (lvC h3 (by omega)) rfl (by decide)) rfl ?_
      refine zs_aload_n (n := 53) dX2_judge_52 rfl rfl ?_
      refine zs_getr (b := (Λ (100 + (sP (wV S (gJ2 S a j (gJ1 a j V))) j)))) (n := 56) dX2_judge_53 gf_X2_73 (hR.kV hj) (hR.vp hj) rfl ?_
      refine zs_aload_n (n := 57) dX2_judge_56 rfl rfl ?_
      refine zs_getr (b := (Λ 6)) (n := 60) dX2_judge_57 gf_X2_19 (hR.kd (lvC h3 (by omega))) (hR.pt (lvC h3 (by omega)) rfl (by decide)) rfl ?_
      refine zs_getv (x := ((gJ2 S a j (gJ1 a j V)) 6 289)) (n := 63) dX2_judge_60 gf_X2_116 (hR.kd (lvC h3 (by omega))) (hR.iv (lvC h3 (by omega)) (by decide) (by decide)) rfl ?_
      refine zc_V (n := 66) (As := [.ref (Λ (100 + (sP (wV S (gJ2 S a j (gJ1 a j V))) j))), .int ((gJ2 S a j (gJ1 a j V)) 6 289)]) (ci := 12) (mc := 0) (ms := 0) dX2_judge_63 ok_X7_hasPlayingNearer ⟨ml_X2_119, im_X7_hasPlayingNearer, sl_X7_hasPlayingNearer⟩ rfl (hR.kd (lvC h3 (by omega))) rfl (Nat.le_of_ble_eq_true rfl) (by simp) (by omega) (Nat.le_refl _) (Nat.le_refl _) rfl rfl (c_hasPlayingNearer hR hP h3 (hR.vpb hj)) ?_
      refine zs_if_eq (tgt := 76) (n := 69) dX2_judge_66 (by decide) rfl (fun h66 => ?_) (fun h66 => ?_)
      · have hRP : zRq Z Λ S ((gJ3 S j ((gJ2 S a j (gJ1 a j V)), pl, nx)), pl, nx) M := by
          unfold gJ3
          first | (rw [if_pos (zb1.mp h66)]; exact ⟨hR, hP⟩) | (rw [if_neg (by rw [zb0.mp h66]; decide)]; exact ⟨hR, hP⟩)
        have hR := hRP.1
        have hP := hRP.2
        refine zs_aload_n (n := 77) dX2_judge_76 rfl rfl ?_
        refine zs_dup (n := 78) dX2_judge_77 rfl rfl ?_
        refine zs_getv (x := ((gJ3 S j ((gJ2 S a j (gJ1 a j V)), pl, nx)) (140 + a) 167)) (n := 81) dX2_judge_78 gf_X2_123 (hR.kA ha) (hR.iv (lvA ha) (by decide) (by decide)) rfl ?_
        refine zs_aload_n (n := 82) dX2_judge_81 rfl rfl ?_
        refine zs_getv (x := ((gJ3 S j ((gJ2 S a j (gJ1 a j V)), pl, nx)) (150 + j) 451)) (n := 85) dX2_judge_82 gf_X2_126 (hR.kV hj) (hR.iv (lvV hj) (by decide) (by decide)) rfl ?_
        refine zs_isub (n := 86) dX2_judge_85 rfl ?_
        refine zw_i (r := (140 + a)) (n := 89) dX2_judge_86 pf_X2_judge_123 hR (lvA ha) (hR.kA ha) ⟨rfl, rfl⟩ (by decide) rfl ?_
        intro M hR hv
        have hR : zRp Z Λ (wV S (u2 (gJ3 S j ((gJ2 S a j (gJ1 a j V)), pl, nx)) (140 + a) 167 (((gJ3 S j ((gJ2 S a j (gJ1 a j V)), pl, nx)) (140 + a) 167) - ((gJ3 S j ((gJ2 S a j (gJ1 a j V)), pl, nx)) (150 + j) 451)))) M := hR
        have hP : zPl Λ ((wV S (u2 (gJ3 S j ((gJ2 S a j (gJ1 a j V)), pl, nx)) (140 + a) 167 (((gJ3 S j ((gJ2 S a j (gJ1 a j V)), pl, nx)) (140 + a) 167) - ((gJ3 S j ((gJ2 S a j (gJ1 a j V)), pl, nx)) (150 + j) 451)))), pl, nx) M := zPl.of (T := (wV S (gJ3 S j ((gJ2 S a j (gJ1 a j V)), pl, nx)), pl, nx)) hP hv rfl rfl (fun _ => rfl) (fun _ => rfl)
        refine zs_aload_n (n := 90) dX2_judge_89 rfl rfl ?_
        refine zs_dup (n := 91) dX2_judge_90 rfl rfl ?_
        refine zs_getv (x := ((u2 (gJ3 S j ((gJ2 S a j (gJ1 a j V)), pl, nx)) (140 + a) 167 (((gJ3 S j ((gJ2 S a j (gJ1 a j V)), pl, nx)) (140 + a) 167) - ((gJ3 S j ((gJ2 S a j (gJ1 a j V)), pl, nx)) (150 + j) 451))) 7 232)) (n := 94) dX2_judge_91 gf_X2_129 (hR.kd (lvC h3 (by omega))) (hR.iv (lvC h3 (by omega)) (by decide) (by decide)) rfl ?_
        refine zs_aload_n (n := 95) dX2_judge_94 rfl rfl ?_
        refine zs_getv (x := ((u2 (gJ3 S j ((gJ2 S a j (gJ1 a j V)), pl, nx)) (140 + a) 167 (((gJ3 S j ((gJ2 S a j (gJ1 a j V)), pl, nx)) (140 + a) 167) - ((gJ3 S j ((gJ2 S a j (gJ1 a j V)), pl, nx)) (150 + j) 451))) (150 + j) 451)) (n := 98) dX2_judge_95 gf_X2_126 (hR.kV hj) (hR.iv (lvV hj) (by decide) (by decide)) rfl ?_
        refine zs_iadd (n := 99) dX2_judge_98 rfl ?_
        refine zw_i (r := 7) (n := 102) dX2_judge_99 pf_X2_judge_129 hR (lvC h3 (by omega)) (hR.kd (lvC h3 (by omega))) ⟨rfl, rfl⟩ (by decide) rfl ?_
        intro M hR hv
        have hR : zRp Z Λ (wV S (u2 (u2 (gJ3 S j ((gJ2 S a j (gJ1 a j V)), pl, nx)) (140 + a) 167 (((gJ3 S j ((gJ2 S a j (gJ1 a j V)), pl, nx)) (140 + a) 167) - ((gJ3 S j ((gJ2 S a j (gJ1 a j V)), pl, nx)) (150 + j) 451))) 7 232 (((u2 (gJ3 S j ((gJ2 S a j (gJ1 a j V)), pl, nx)) (140 + a) 167 (((gJ3 S j ((gJ2 S a j (gJ1 a j V)), pl, nx)) (140 + a) 167) - ((gJ3 S j ((gJ2 S a j (gJ1 a j V)), pl, nx)) (150 + j) 451))) 7 232) + ((u2 (gJ3 S j ((gJ2 S a j (gJ1 a j V)), pl, nx)) (140 + a) 167 (((gJ3 S j ((gJ2 S a j (gJ1 a j V)), pl, nx)) (140 + a) 167) - ((gJ3 S j ((gJ2 S a j (gJ1 a j V)), pl, nx)) (150 + j) 451))) (150 + j) 451)))) M := hR
        have hP : zPl Λ ((wV S (u2 (u2 (gJ3 S j ((gJ2 S a j (gJ1 a j V)), pl, nx)) (140 + a) 167 (((gJ3 S j ((gJ2 S a j (gJ1 a j V)), pl, nx)) (140 + a) 167) - ((gJ3 S j ((gJ2 S a j (gJ1 a j V)), pl, nx)) (150 + j) 451))) 7 232 (((u2 (gJ3 S j ((gJ2 S a j (gJ1 a j V)), pl, nx)) (140 + a) 167 (((gJ3 S j ((gJ2 S a j (gJ1 a j V)), pl, nx)) (140 + a) 167) - ((gJ3 S j ((gJ2 S a j (gJ1 a j V)), pl, nx)) (150 + j) 451))) 7 232) + ((u2 (gJ3 S j ((gJ2 S a j (gJ1 a j V)), pl, nx)) (140 + a) 167 (((gJ3 S j ((gJ2 S a j (gJ1 a j V)), pl, nx)) (140 + a) 167) - ((gJ3 S j ((gJ2 S a j (gJ1 a j V)), pl, nx)) (150 + j) 451))) (150 + j) 451)))), pl, nx) M := zPl.of (T := (wV S (u2 (gJ3 S j ((gJ2 S a j (gJ1 a j V)), pl, nx)) (140 + a) 167 (((gJ3 S j ((gJ2 S a j (gJ1 a j V)), pl, nx)) (140 + a) 167) - ((gJ3 S j ((gJ2 S a j (gJ1 a j V)), pl, nx)) (150 + j) 451))), pl, nx)) hP hv rfl rfl (fun _ => rfl) (fun _ => rfl)
        refine zs_return dX2_judge_102 rfl ?_
        exact hQ _ ⟨hR, hP⟩
      · refine zs_aload_n (n := 70) dX2_judge_69 rfl rfl ?_
        refine zs_bipush (v := 100) (n := 72) dX2_judge_70 (by decide) rfl ?_
        refine zs_iconst (v := 5) (n := 73) dX2_judge_72 (by decide) rfl ?_
        refine zg_V (n := 76) (As := [.int (100 : Int32), .int (5 : Int32)]) (ci := 14) (mc := 0) (ms := 0) dX2_judge_73 ok_X9_fine ⟨ml_X2_101, im_X9_fine, sl_X9_fine⟩ rfl (hR.kV hj) rfl (Nat.le_of_ble_eq_true rfl) (by simp) (by omega) (Nat.le_refl _) (Nat.le_refl _) rfl rfl (c_fine hR hP hj ⟨by decide, by decide⟩) ?_
        intro M hR9
        have hR := hR9.1
        have hP := hR9.2
        have hRP : zRq Z Λ S ((gJ3 S j ((gJ2 S a j (gJ1 a j V)), pl, nx)), pl, nx) M := by
          unfold gJ3
          first | (rw [if_pos (zb1.mp h66)]; exact ⟨hR, hP⟩) | (rw [if_neg (by rw [zb0.mp h66]; decide)]; exact ⟨hR, hP⟩)
        have hR := hRP.1
        have hP := hRP.2
        refine zs_aload_n (n := 77) dX2_judge_76 rfl rfl ?_
        refine zs_dup (n := 78) dX2_judge_77 rfl rfl ?_
        refine zs_getv (x := ((gJ3 S j ((gJ2 S a j (gJ1 a j V)), pl, nx)) (140 + a) 167)) (n := 81) dX2_judge_78 gf_X2_123 (hR.kA ha) (hR.iv (lvA ha) (by decide) (by decide)) rfl ?_
        refine zs_aload_n (n := 82) dX2_judge_81 rfl rfl ?_
        refine zs_getv (x := ((gJ3 S j ((gJ2 S a j (gJ1 a j V)), pl, nx)) (150 + j) 451)) (n := 85) dX2_judge_82 gf_X2_126 (hR.kV hj) (hR.iv (lvV hj) (by decide) (by decide)) rfl ?_
        refine zs_isub (n := 86) dX2_judge_85 rfl ?_
        refine zw_i (r := (140 + a)) (n := 89) dX2_judge_86 pf_X2_judge_123 hR (lvA ha) (hR.kA ha) ⟨rfl, rfl⟩ (by decide) rfl ?_
        intro M hR hv
        have hR : zRp Z Λ (wV S (u2 (gJ3 S j ((gJ2 S a j (gJ1 a j V)), pl, nx)) (140 + a) 167 (((gJ3 S j ((gJ2 S a j (gJ1 a j V)), pl, nx)) (140 + a) 167) - ((gJ3 S j ((gJ2 S a j (gJ1 a j V)), pl, nx)) (150 + j) 451)))) M := hR
        have hP : zPl Λ ((wV S (u2 (gJ3 S j ((gJ2 S a j (gJ1 a j V)), pl, nx)) (140 + a) 167 (((gJ3 S j ((gJ2 S a j (gJ1 a j V)), pl, nx)) (140 + a) 167) - ((gJ3 S j ((gJ2 S a j (gJ1 a j V)), pl, nx)) (150 + j) 451)))), pl, nx) M := zPl.of (T := (wV S (gJ3 S j ((gJ2 S a j (gJ1 a j V)), pl, nx)), pl, nx)) hP hv rfl rfl (fun _ => rfl) (fun _ => rfl)
        refine zs_aload_n (n := 90) dX2_judge_89 rfl rfl ?_
        refine zs_dup (n := 91) dX2_judge_90 rfl rfl ?_
        refine zs_getv (x := ((u2 (gJ3 S j ((gJ2 S a j (gJ1 a j V)), pl, nx)) (140 + a) 167 (((gJ3 S j ((gJ2 S a j (gJ1 a j V)), pl, nx)) (140 + a) 167) - ((gJ3 S j ((gJ2 S a j (gJ1 a j V)), pl, nx)) (150 + j) 451))) 7 232)) (n := 94) dX2_judge_91 gf_X2_129 (hR.kd (lvC h3 (by omega))) (hR.iv (lvC h3 (by omega)) (by decide) (by decide)) rfl ?_
        refine zs_aload_n (n := 95) dX2_judge_94 rfl rfl ?_
        refine zs_getv (x := ((u2 (gJ3 S j ((gJ2 S a j (gJ1 a j V)), pl, nx)) (140 + a) 167 (((gJ3 S j ((gJ2 S a j (gJ1 a j V)), pl, nx)) (140 + a) 167) - ((gJ3 S j ((gJ2 S a j (gJ1 a j V)), pl, nx)) (150 + j) 451))) (150 + j) 451)) (n := 98) dX2_judge_95 gf_X2_126 (hR.kV hj) (hR.iv (lvV hj) (by decide) (by decide)) rfl ?_
        refine zs_iadd (n := 99) dX2_judge_98 rfl ?_
        refine zw_i (r := 7) (n := 102) dX2_judge_99 pf_X2_judge_129 hR (lvC h3 (by omega)) (hR.kd (lvC h3 (by omega))) ⟨rfl, rfl⟩ (by decide) rfl ?_
        intro M hR hv
        have hR : zRp Z Λ (wV S (u2 (u2 (gJ3 S j ((gJ2 S a j (gJ1 a j V)), pl, nx)) (140 + a) 167 (((gJ3 S j ((gJ2 S a j (gJ1 a j V)), pl, nx)) (140 + a) 167) - ((gJ3 S j ((gJ2 S a j (gJ1 a j V)), pl, nx)) (150 + j) 451))) 7 232 (((u2 (gJ3 S j ((gJ2 S a j (gJ1 a j V)), pl, nx)) (140 + a) 167 (((gJ3 S j ((gJ2 S a j (gJ1 a j V)), pl, nx)) (140 + a) 167) - ((gJ3 S j ((gJ2 S a j (gJ1 a j V)), pl, nx)) (150 + j) 451))) 7 232) + ((u2 (gJ3 S j ((gJ2 S a j (gJ1 a j V)), pl, nx)) (140 + a) 167 (((gJ3 S j ((gJ2 S a j (gJ1 a j V)), pl, nx)) (140 + a) 167) - ((gJ3 S j ((gJ2 S a j (gJ1 a j V)), pl, nx)) (150 + j) 451))) (150 + j) 451)))) M := hR
        have hP : zPl Λ ((wV S (u2 (u2 (gJ3 S j ((gJ2 S a j (gJ1 a j V)), pl, nx)) (140 + a) 167 (((gJ3 S j ((gJ2 S a j (gJ1 a j V)), pl, nx)) (140 + a) 167) - ((gJ3 S j ((gJ2 S a j (gJ1 a j V)), pl, nx)) (150 + j) 451))) 7 232 (((u2 (gJ3 S j ((gJ2 S a j (gJ1 a j V)), pl, nx)) (140 + a) 167 (((gJ3 S j ((gJ2 S a j (gJ1 a j V)), pl, nx)) (140 + a) 167) - ((gJ3 S j ((gJ2 S a j (gJ1 a j V)), pl, nx)) (150 + j) 451))) 7 232) + ((u2 (gJ3 S j ((gJ2 S a j (gJ1 a j V)), pl, nx)) (140 + a) 167 (((gJ3 S j ((gJ2 S a j (gJ1 a j V)), pl, nx)) (140 + a) 167) - ((gJ3 S j ((gJ2 S a j (gJ1 a j V)), pl, nx)) (150 + j) 451))) (150 + j) 451)))), pl, nx) M := zPl.of (T := (wV S (u2 (gJ3 S j ((gJ2 S a j (gJ1 a j V)), pl, nx)) (140 + a) 167 (((gJ3 S j ((gJ2 S a j (gJ1 a j V)), pl, nx)) (140 + a) 167) - ((gJ3 S j ((gJ2 S a j (gJ1 a j V)), pl, nx)) (150 + j) 451))), pl, nx)) hP hv rfl rfl (fun _ => rfl) (fun _ => rfl)
        refine zs_return dX2_judge_102 rfl ?_
        exact hQ _ ⟨hR, hP⟩
    · refine zs_aload_n (n := 41) dX2_judge_40 rfl rfl ?_
      refine zs_bipush (v := 110) (n := 43) dX2_judge_41 (by decide) rfl ?_
      refine zs_bipush (v := 10) (n := 45) dX2_judge_43 (by decide) rfl ?_
      refine zg_V (n := 48) (As := [.int (110 : Int32), .int (10 : Int32)]) (ci := 14) (mc := 0) (ms := 0) dX2_judge_45 ok_X9_fine ⟨ml_X2_101, im_X9_fine, sl_X9_fine⟩ rfl (hR.kV hj) rfl (Nat.le_of_ble_eq_true rfl) (by simp) (by omega) (Nat.le_refl _) (Nat.le_refl _) rfl rfl (c_fine hR hP hj ⟨by decide, by decide⟩) ?_
      intro M hR9
      have hR := hR9.1
      have hP := hR9.2
      have hRP : zRq Z Λ S ((gJ2 S a j (gJ1 a j V)), pl, nx) M := by
        unfold gJ2
        first | (rw [if_pos h37]; exact ⟨hR, hP⟩) | (rw [if_neg h37]; exact ⟨hR, hP⟩)
      have hR := hRP.1
      have hP := hRP.2
      refine zs_aload_n (n := 49) dX2_judge_48 rfl rfl ?_
      refine zs_getr (b := (Λ 2)) (n := 52) dX2_judge_49 gf_X2_9 (hR.kd (lvC h3 (by omega))) (hR.pt (lvC h3 (by omega)) rfl (by decide)) rfl ?_
      refine zs_aload_n (n := 53) dX2_judge_52 rfl rfl ?_
      refine zs_getr (b := (Λ (100 + (sP (wV S (gJ2 S a j (gJ1 a j V))) j)))) (n := 56) dX2_judge_53 gf_X2_73 (hR.kV hj) (hR.vp hj) rfl ?_
      refine zs_aload_n (n := 57) dX2_judge_56 rfl rfl ?_
      refine zs_getr (b := (Λ 6)) (n := 60) dX2_judge_57 gf_X2_19 (hR.kd (lvC h3 (by omega))) (hR.pt (lvC h3 (by omega)) rfl (by decide)) rfl ?_
      refine zs_getv (x := ((gJ2 S a j (gJ1 a j V)) 6 289)) (n := 63) dX2_judge_60 gf_X2_116 (hR.kd (lvC h3 (by omega))) (hR.iv (lvC h3 (by omega)) (by decide) (by decide)) rfl ?_
      refine zc_V (n := 66) (As := [.ref (Λ (100 + (sP (wV S (gJ2 S a j (gJ1 a j V))) j))), .int ((gJ2 S a j (gJ1 a j V)) 6 289)]) (ci := 12) (mc := 0) (ms := 0) dX2_judge_63 ok_X7_hasPlayingNearer ⟨ml_X2_119, im_X7_hasPlayingNearer, sl_X7_hasPlayingNearer⟩ rfl (hR.kd (lvC h3 (by omega))) rfl (Nat.le_of_ble_eq_true rfl) (by simp) (by omega) (Nat.le_refl _) (Nat.le_refl _) rfl rfl (c_hasPlayingNearer hR hP h3 (hR.vpb hj)) ?_
      refine zs_if_eq (tgt := 76) (n := 69) dX2_judge_66 (by decide) rfl (fun h66 => ?_) (fun h66 => ?_)
      · have hRP : zRq Z Λ S ((gJ3 S j ((gJ2 S a j (gJ1 a j V)), pl, nx)), pl, nx) M := by
          unfold gJ3
          first | (rw [if_pos (zb1.mp h66)]; exact ⟨hR, hP⟩) | (rw [if_neg (by rw [zb0.mp h66]; decide)]; exact ⟨hR, hP⟩)
        have hR := hRP.1
        have hP := hRP.2
        refine zs_aload_n (n := 77) dX2_judge_76 rfl rfl ?_
        refine zs_dup (n := 78) dX2_judge_77 rfl rfl ?_
        refine zs_getv (x := ((gJ3 S j ((gJ2 S a j (gJ1 a j V)), pl, nx)) (140 + a) 167)) (n := 81) dX2_judge_78 gf_X2_123 (hR.kA ha) (hR.iv (lvA ha) (by decide) (by decide)) rfl ?_
        refine zs_aload_n (n := 82) dX2_judge_81 rfl rfl ?_
        refine zs_getv (x := ((gJ3 S j ((gJ2 S a j (gJ1 a j V)), pl, nx)) (150 + j) 451)) (n := 85) dX2_judge_82 gf_X2_126 (hR.kV hj) (hR.iv (lvV hj) (by decide) (by decide)) rfl ?_
        refine zs_isub (n := 86) dX2_judge_85 rfl ?_
        refine zw_i (r := (140 + a)) (n := 89) dX2_judge_86 pf_X2_judge_123 hR (lvA ha) (hR.kA ha) ⟨rfl, rfl⟩ (by decide) rfl ?_
        intro M hR hv
        have hR : zRp Z Λ (wV S (u2 (gJ3 S j ((gJ2 S a j (gJ1 a j V)), pl, nx)) (140 + a) 167 (((gJ3 S j ((gJ2 S a j (gJ1 a j V)), pl, nx)) (140 + a) 167) - ((gJ3 S j ((gJ2 S a j (gJ1 a j V)), pl, nx)) (150 + j) 451)))) M := hR
        have hP : zPl Λ ((wV S (u2 (gJ3 S j ((gJ2 S a j (gJ1 a j V)), pl, nx)) (140 + a) 167 (((gJ3 S j ((gJ2 S a j (gJ1 a j V)), pl, nx)) (140 + a) 167) - ((gJ3 S j ((gJ2 S a j (gJ1 a j V)), pl, nx)) (150 + j) 451)))), pl, nx) M := zPl.of (T := (wV S (gJ3 S j ((gJ2 S a j (gJ1 a j V)), pl, nx)), pl, nx)) hP hv rfl rfl (fun _ => rfl) (fun _ => rfl)
        refine zs_aload_n (n := 90) dX2_judge_89 rfl rfl ?_
        refine zs_dup (n := 91) dX2_judge_90 rfl rfl ?_
        refine zs_getv (x := ((u2 (gJ3 S j ((gJ2 S a j (gJ1 a j V)), pl, nx)) (140 + a) 167 (((gJ3 S j ((gJ2 S a j (gJ1 a j V)), pl, nx)) (140 + a) 167) - ((gJ3 S j ((gJ2 S a j (gJ1 a j V)), pl, nx)) (150 + j) 451))) 7 232)) (n := 94) dX2_judge_91 gf_X2_129 (hR.kd (lvC h3 (by omega))) (hR.iv (lvC h3 (by omega)) (by decide) (by decide)) rfl ?_
        refine zs_aload_n (n := 95) dX2_judge_94 rfl rfl ?_
        refine zs_getv (x := ((u2 (gJ3 S j ((gJ2 S a j (gJ1 a j V)), pl, nx)) (140 + a) 167 (((gJ3 S j ((gJ2 S a j (gJ1 a j V)), pl, nx)) (140 + a) 167) - ((gJ3 S j ((gJ2 S a j (gJ1 a j V)), pl, nx)) (150 + j) 451))) (150 + j) 451)) (n := 98) dX2_judge_95 gf_X2_126 (hR.kV hj) (hR.iv (lvV hj) (by decide) (by decide)) rfl ?_
        refine zs_iadd (n := 99) dX2_judge_98 rfl ?_
        refine zw_i (r := 7) (n := 102) dX2_judge_99 pf_X2_judge_129 hR (lvC h3 (by omega)) (hR.kd (lvC h3 (by omega))) ⟨rfl, rfl⟩ (by decide) rfl ?_
        intro M hR hv
        have hR : zRp Z Λ (wV S (u2 (u2 (gJ3 S j ((gJ2 S a j (gJ1 a j V)), pl, nx)) (140 + a) 167 (((gJ3 S j ((gJ2 S a j (gJ1 a j V)), pl, nx)) (140 + a) 167) - ((gJ3 S j ((gJ2 S a j (gJ1 a j V)), pl, nx)) (150 + j) 451))) 7 232 (((u2 (gJ3 S j ((gJ2 S a j (gJ1 a j V)), pl, nx)) (140 + a) 167 (((gJ3 S j ((gJ2 S a j (gJ1 a j V)), pl, nx)) (140 + a) 167) - ((gJ3 S j ((gJ2 S a j (gJ1 a j V)), pl, nx)) (150 + j) 451))) 7 232) + ((u2 (gJ3 S j ((gJ2 S a j (gJ1 a j V)), pl, nx)) (140 + a) 167 (((gJ3 S j ((gJ2 S a j (gJ1 a j V)), pl, nx)) (140 + a) 167) - ((gJ3 S j ((gJ2 S a j (gJ1 a j V)), pl, nx)) (150 + j) 451))) (150 + j) 451)))) M := hR
        have hP : zPl Λ ((wV S (u2 (u2 (gJ3 S j ((gJ2 S a j (gJ1 a j V)), pl, nx)) (140 + a) 167 (((gJ3 S j ((gJ2 S a j (gJ1 a j V)), pl, nx)) (140 + a) 167) - ((gJ3 S j ((gJ2 S a j (gJ1 a j V)), pl, nx)) (150 + j) 451))) 7 232 (((u2 (gJ3 S j ((gJ2 S a j (gJ1 a j V)), pl, nx)) (140 + a) 167 (((gJ3 S j ((gJ2 S a j (gJ1 a j V)), pl, nx)) (140 + a) 167) - ((gJ3 S j ((gJ2 S a j (gJ1 a j V)), pl, nx)) (150 + j) 451))) 7 232) + ((u2 (gJ3 S j ((gJ2 S a j (gJ1 a j V)), pl, nx)) (140 + a) 167 (((gJ3 S j ((gJ2 S a j (gJ1 a j V)), pl, nx)) (140 + a) 167) - ((gJ3 S j ((gJ2 S a j (gJ1 a j V)), pl, nx)) (150 + j) 451))) (150 + j) 451)))), pl, nx) M := zPl.of (T := (wV S (u2 (gJ3 S j ((gJ2 S a j (gJ1 a j V)), pl, nx)) (140 + a) 167 (((gJ3 S j ((gJ2 S a j (gJ1 a j V)), pl, nx)) (140 + a) 167) - ((gJ3 S j ((gJ2 S a j (gJ1 a j V)), pl, nx)) (150 + j) 451))), pl, nx)) hP hv rfl rfl (fun _ => rfl) (fun _ => rfl)
        refine zs_return dX2_judge_102 rfl ?_
        exact hQ _ ⟨hR, hP⟩
      · refine zs_aload_n (n := 70) dX2_judge_69 rfl rfl ?_
        refine zs_bipush (v := 100) (n := 72) dX2_judge_70 (by decide) rfl ?_
        refine zs_iconst (v := 5) (n := 73) dX2_judge_72 (by decide) rfl ?_
        refine zg_V (n := 76) (As := [.int (100 : Int32), .int (5 : Int32)]) (ci := 14) (mc := 0) (ms := 0) dX2_judge_73 ok_X9_fine ⟨ml_X2_101, im_X9_fine, sl_X9_fine⟩ rfl (hR.kV hj) rfl (Nat.le_of_ble_eq_true rfl) (by simp) (by omega) (Nat.le_refl _) (Nat.le_refl _) rfl rfl (c_fine hR hP hj ⟨by decide, by decide⟩) ?_
        intro M hR9
        have hR := hR9.1
        have hP := hR9.2
        have hRP : zRq Z Λ S ((gJ3 S j ((gJ2 S a j (gJ1 a j V)), pl, nx)), pl, nx) M := by
          unfold gJ3
          first | (rw [if_pos (zb1.mp h66)]; exact ⟨hR, hP⟩) | (rw [if_neg (by rw [zb0.mp h66]; decide)]; exact ⟨hR, hP⟩)
        have hR := hRP.1
        have hP := hRP.2
        refine zs_aload_n (n := 77) dX2_judge_76 rfl rfl ?_
        refine zs_dup (n := 78) dX2_judge_77 rfl rfl ?_
        refine zs_getv (x := ((gJ3 S j ((gJ2 S a j (gJ1 a j V)), pl, nx)) (140 + a) 167)) (n := 81) dX2_judge_78 gf_X2_123 (hR.kA ha) (hR.iv (lvA ha) (by decide) (by decide)) rfl ?_
        refine zs_aload_n (n := 82) dX2_judge_81 rfl rfl ?_
        refine zs_getv (x := ((gJ3 S j ((gJ2 S a j (gJ1 a j V)), pl, nx)) (150 + j) 451)) (n := 85) dX2_judge_82 gf_X2_126 (hR.kV hj) (hR.iv (lvV hj) (by decide) (by decide)) rfl ?_
        refine zs_isub (n := 86) dX2_judge_85 rfl ?_
        refine zw_i (r := (140 + a)) (n := 89) dX2_judge_86 pf_X2_judge_123 hR (lvA ha) (hR.kA ha) ⟨rfl, rfl⟩ (by decide) rfl ?_
        intro M hR hv
        have hR : zRp Z Λ (wV S (u2 (gJ3 S j ((gJ2 S a j (gJ1 a j V)), pl, nx)) (140 + a) 167 (((gJ3 S j ((gJ2 S a j (gJ1 a j V)), pl, nx)) (140 + a) 167) - ((gJ3 S j ((gJ2 S a j (gJ1 a j V)), pl, nx)) (150 + j) 451)))) M := hR
        have hP : zPl Λ ((wV S (u2 (gJ3 S j ((gJ2 S a j (gJ1 a j V)), pl, nx)) (140 + a) 167 (((gJ3 S j ((gJ2 S a j (gJ1 a j V)), pl, nx)) (140 + a) 167) - ((gJ3 S j ((gJ2 S a j (gJ1 a j V)), pl, nx)) (150 + j) 451)))), pl, nx) M := zPl.of (T := (wV S (gJ3 S j ((gJ2 S a j (gJ1 a j V)), pl, nx)), pl, nx)) hP hv rfl rfl (fun _ => rfl) (fun _ => rfl)
        refine zs_aload_n (n := 90) dX2_judge_89 rfl rfl ?_
        refine zs_dup (n := 91) dX2_judge_90 rfl rfl ?_
        refine zs_getv (x := ((u2 (gJ3 S j ((gJ2 S a j (gJ1 a j V)), pl, nx)) (140 + a) 167 (((gJ3 S j ((gJ2 S a j (gJ1 a j V)), pl, nx)) (140 + a) 167) - ((gJ3 S j ((gJ2 S a j (gJ1 a j V)), pl, nx)) (150 + j) 451))) 7 232)) (n := 94) dX2_judge_91 gf_X2_129 (hR.kd (lvC h3 (by omega))) (hR.iv (lvC h3 (by omega)) (by decide) (by decide)) rfl ?_
        refine zs_aload_n (n := 95) dX2_judge_94 rfl rfl ?_
        refine zs_getv (x := ((u2 (gJ3 S j ((gJ2 S a j (gJ1 a j V)), pl, nx)) (140 + a) 167 (((gJ3 S j ((gJ2 S a j (gJ1 a j V)), pl, nx)) (140 + a) 167) - ((gJ3 S j ((gJ2 S a j (gJ1 a j V)), pl, nx)) (150 + j) 451))) (150 + j) 451)) (n := 98) dX2_judge_95 gf_X2_126 (hR.kV hj) (hR.iv (lvV hj) (by decide) (by decide)) rfl ?_
        refine zs_iadd (n := 99) dX2_judge_98 rfl ?_
        refine zw_i (r := 7) (n := 102) dX2_judge_99 pf_X2_judge_129 hR (lvC h3 (by omega)) (hR.kd (lvC h3 (by omega))) ⟨rfl, rfl⟩ (by decide) rfl ?_
        intro M hR hv
        have hR : zRp Z Λ (wV S (u2 (u2 (gJ3 S j ((gJ2 S a j (gJ1 a j V)), pl, nx)) (140 + a) 167 (((gJ3 S j ((gJ2 S a j (gJ1 a j V)), pl, nx)) (140 + a) 167) - ((gJ3 S j ((gJ2 S a j (gJ1 a j V)), pl, nx)) (150 + j) 451))) 7 232 (((u2 (gJ3 S j ((gJ2 S a j (gJ1 a j V)), pl, nx)) (140 + a) 167 (((gJ3 S j ((gJ2 S a j (gJ1 a j V)), pl, nx)) (140 + a) 167) - ((gJ3 S j ((gJ2 S a j (gJ1 a j V)), pl, nx)) (150 + j) 451))) 7 232) + ((u2 (gJ3 S j ((gJ2 S a j (gJ1 a j V)), pl, nx)) (140 + a) 167 (((gJ3 S j ((gJ2 S a j (gJ1 a j V)), pl, nx)) (140 + a) 167) - ((gJ3 S j ((gJ2 S a j (gJ1 a j V)), pl, nx)) (150 + j) 451))) (150 + j) 451)))) M := hR
        have hP : zPl Λ ((wV S (u2 (u2 (gJ3 S j ((gJ2 S a j (gJ1 a j V)), pl, nx)) (140 + a) 167 (((gJ3 S j ((gJ2 S a j (gJ1 a j V)), pl, nx)) (140 + a) 167) - ((gJ3 S j ((gJ2 S a j (gJ1 a j V)), pl, nx)) (150 + j) 451))) 7 232 (((u2 (gJ3 S j ((gJ2 S a j (gJ1 a j V)), pl, nx)) (140 + a) 167 (((gJ3 S j ((gJ2 S a j (gJ1 a j V)), pl, nx)) (140 + a) 167) - ((gJ3 S j ((gJ2 S a j (gJ1 a j V)), pl, nx)) (150 + j) 451))) 7 232) + ((u2 (gJ3 S j ((gJ2 S a j (gJ1 a j V)), pl, nx)) (140 + a) 167 (((gJ3 S j ((gJ2 S a j (gJ1 a j V)), pl, nx)) (140 + a) 167) - ((gJ3 S j ((gJ2 S a j (gJ1 a j V)), pl, nx)) (150 + j) 451))) (150 + j) 451)))), pl, nx) M := zPl.of (T := (wV S (u2 (gJ3 S j ((gJ2 S a j (gJ1 a j V)), pl, nx)) (140 + a) 167 (((gJ3 S j ((gJ2 S a j (gJ1 a j V)), pl, nx)) (140 + a) 167) - ((gJ3 S j ((gJ2 S a j (gJ1 a j V)), pl, nx)) (150 + j) 451))), pl, nx)) hP hv rfl rfl (fun _ => rfl) (fun _ => rfl)
        refine zs_return dX2_judge_102 rfl ?_
        exact hQ _ ⟨hR, hP⟩
  · refine zs_aload_n (n := 8) dX2_judge_7 rfl rfl ?_
    refine zs_bipush (v := 102) (n := 10) dX2_judge_8 (by decide) rfl ?_
    refine zs_bipush (v := 20) (n := 12) dX2_judge_10 (by decide) rfl ?_
    refine zg_V (n := 15) (As := [.int (102 : Int32), .int (20 : Int32)]) (ci := 14) (mc := 0) (ms := 0) dX2_judge_12 ok_X9_fine ⟨ml_X2_101, im_X9_fine, sl_X9_fine⟩ rfl (hR.kV hj) rfl (Nat.le_of_ble_eq_true rfl) (by simp) (by omega) (Nat.le_refl _) (Nat.le_refl _) rfl rfl (c_fine hR hP hj ⟨by decide, by decide⟩) ?_
    intro M hR9
    have hR := hR9.1
    have hP := hR9.2
    have hRP : zRq Z Λ S ((gJ1 a j V), pl, nx) M := by
      unfold gJ1
      first | (rw [if_pos (zb1.mp h4)]; exact ⟨hR, hP⟩) | (rw [if_neg (by rw [zb0.mp h4]; decide)]; exact ⟨hR, hP⟩)
    have hR := hRP.1
    have hP := hRP.2
    refine zs_bipush (v := 10) (n := 17) dX2_judge_15 (by decide) rfl ?_
    refine zs_aload_n (n := 18) dX2_judge_17 rfl rfl ?_
    refine zs_getv (x := ((gJ1 a j V) (140 + a) 162)) (n := 21) dX2_judge_18 gf_X2_105 (hR.kA ha) (hR.iv (lvA ha) (by decide) (by decide)) rfl ?_
    refine zs_imul (n := 22) dX2_judge_21 rfl ?_
    refine zs_aload_n (n := 23) dX2_judge_22 rfl rfl ?_
    refine zs_getr (b := (Λ (100 + (sP (wV S (gJ1 a j V)) j)))) (n := 26) dX2_judge_23 gf_X2_73 (hR.kV hj) (hR.vp hj) rfl ?_
    refine zs_getv (x := ((gJ1 a j V) (100 + (sP (wV S (gJ1 a j V)) j)) 353)) (n := 29) dX2_judge_26 gf_X2_108 (hR.kP (hR.vpb hj)) (hR.iv (lvP (hR.vpb hj)) (by decide) (by decide)) rfl ?_
    refine zs_iadd (n := 30) dX2_judge_29 rfl ?_
    refine zs_aload_n (n := 31) dX2_judge_30 rfl rfl ?_
    refine zs_getr (b := (Λ 6)) (n := 34) dX2_judge_31 gf_X2_19 (hR.kd (lvC h3 (by omega))) (hR.pt (lvC h3 (by omega)) rfl (by decide)) rfl ?_
    refine zs_getv (x := ((gJ1 a j V) 6 288)) (n := 37) dX2_judge_34 gf_X2_111 (hR.kd (lvC h3 (by omega))) (hR.iv (lvC h3 (by omega)) (by decide) (by decide)) rfl ?_
    refine zs_icmp_le (tgt := 48) (n := 40) dX2_judge_37 (by decide) rfl (fun h37 => ?_) (fun h37 => ?_)
    · have hRP : zRq Z Λ S ((gJ2 S a j (gJ1 a j V)), pl, nx) M := by
        unfold gJ2
        first | (rw [if_pos h37]; exact ⟨hR, hP⟩) | (rw [if_neg h37]; exact ⟨hR, hP⟩)
      have hR := hRP.1
      have hP := hRP.2
      refine zs_aload_n (n := 49) dX2_judge_48 rfl rfl ?_
      refine zs_getr (b := (Λ 2)) (n := 52) dX2_judge_49 gf_X2_9 (hR.kd (lvC h3 (by omega))) (hR.pt (lvC h3 (by omega)) rfl (by decide)) rfl ?_
      refine zs_aload_n (n := 53) dX2_judge_52 rfl rfl ?_
      refine zs_getr (b := (Λ (100 + (sP (wV S (gJ2 S a j (gJ1 a j V))) j)))) (n := 56) dX2_judge_53 gf_X2_73 (hR.kV hj) (hR.vp hj) rfl ?_
      refine zs_aload_n (n := 57) dX2_judge_56 rfl rfl ?_
      refine zs_getr (b := (Λ 6)) (n := 60) dX2_judge_57 gf_X2_19 (hR.kd (lvC h3 (by omega))) (hR.pt (lvC h3 (by omega)) rfl (by decide)) rfl ?_
      refine zs_getv (x := ((gJ2 S a j (gJ1 a j V)) 6 289)) (n := 63) dX2_judge_60 gf_X2_116 (hR.kd (lvC h3 (by omega))) (hR.iv (lvC h3 (by omega)) (by decide) (by decide)) rfl ?_
      refine zc_V (n := 66) (As := [.ref (Λ (100 + (sP (wV S (gJ2 S a j (gJ1 a j V))) j))), .int ((gJ2 S a j (gJ1 a j V)) 6 289)]) (ci := 12) (mc := 0) (ms := 0) dX2_judge_63 ok_X7_hasPlayingNearer ⟨ml_X2_119, im_X7_hasPlayingNearer, sl_X7_hasPlayingNearer⟩ rfl (hR.kd (lvC h3 (by omega))) rfl (Nat.le_of_ble_eq_true rfl) (by simp) (by omega) (Nat.le_refl _) (Nat.le_refl _) rfl rfl (c_hasPlayingNearer hR hP h3 (hR.vpb hj)) ?_
      refine zs_if_eq (tgt := 76) (n := 69) dX2_judge_66 (by decide) rfl (fun h66 => ?_) (fun h66 => ?_)
      · have hRP : zRq Z Λ S ((gJ3 S j ((gJ2 S a j (gJ1 a j V)), pl, nx)), pl, nx) M := by
          unfold gJ3
          first | (rw [if_pos (zb1.mp h66)]; exact ⟨hR, hP⟩) | (rw [if_neg (by rw [zb0.mp h66]; decide)]; exact ⟨hR, hP⟩)
        have hR := hRP.1
        have hP := hRP.2
        refine zs_aload_n (n := 77) dX2_judge_76 rfl rfl ?_
        refine zs_dup (n := 78) dX2_judge_77 rfl rfl ?_
        refine zs_getv (x := ((gJ3 S j ((gJ2 S a j (gJ1 a j V)), pl, nx)) (140 + a) 167)) (n := 81) dX2_judge_78 gf_X2_123 (hR.kA ha) (hR.iv (lvA ha) (by decide) (by decide)) rfl ?_
        refine zs_aload_n (n := 82) dX2_judge_81 rfl rfl ?_
        refine zs_getv (x := ((gJ3 S j ((gJ2 S a j (gJ1 a j V)), pl, nx)) (150 + j) 451)) (n := 85) dX2_judge_82 gf_X2_126 (hR.kV hj) (hR.iv (lvV hj) (by decide) (by decide)) rfl ?_
        refine zs_isub (n := 86) dX2_judge_85 rfl ?_
        refine zw_i (r := (140 + a)) (n := 89) dX2_judge_86 pf_X2_judge_123 hR (lvA ha) (hR.kA ha) ⟨rfl, rfl⟩ (by decide) rfl ?_
        intro M hR hv
        have hR : zRp Z Λ (wV S (u2 (gJ3 S j ((gJ2 S a j (gJ1 a j V)), pl, nx)) (140 + a) 167 (((gJ3 S j ((gJ2 S a j (gJ1 a j V)), pl, nx)) (140 + a) 167) - ((gJ3 S j ((gJ2 S a j (gJ1 a j V)), pl, nx)) (150 + j) 451)))) M := hR
        have hP : zPl Λ ((wV S (u2 (gJ3 S j ((gJ2 S a j (gJ1 a j V)), pl, nx)) (140 + a) 167 (((gJ3 S j ((gJ2 S a j (gJ1 a j V)), pl, nx)) (140 + a) 167) - ((gJ3 S j ((gJ2 S a j (gJ1 a j V)), pl, nx)) (150 + j) 451)))), pl, nx) M := zPl.of (T := (wV S (gJ3 S j ((gJ2 S a j (gJ1 a j V)), pl, nx)), pl, nx)) hP hv rfl rfl (fun _ => rfl) (fun _ => rfl)
        refine zs_aload_n (n := 90) dX2_judge_89 rfl rfl ?_
        refine zs_dup (n := 91) dX2_judge_90 rfl rfl ?_
        refine zs_getv (x := ((u2 (gJ3 S j ((gJ2 S a j (gJ1 a j V)), pl, nx)) (140 + a) 167 (((gJ3 S j ((gJ2 S a j (gJ1 a j V)), pl, nx)) (140 + a) 167) - ((gJ3 S j ((gJ2 S a j (gJ1 a j V)), pl, nx)) (150 + j) 451))) 7 232)) (n := 94) dX2_judge_91 gf_X2_129 (hR.kd (lvC h3 (by omega))) (hR.iv (lvC h3 (by omega)) (by decide) (by decide)) rfl ?_
        refine zs_aload_n (n := 95) dX2_judge_94 rfl rfl ?_
        refine zs_getv (x := ((u2 (gJ3 S j ((gJ2 S a j (gJ1 a j V)), pl, nx)) (140 + a) 167 (((gJ3 S j ((gJ2 S a j (gJ1 a j V)), pl, nx)) (140 + a) 167) - ((gJ3 S j ((gJ2 S a j (gJ1 a j V)), pl, nx)) (150 + j) 451))) (150 + j) 451)) (n := 98) dX2_judge_95 gf_X2_126 (hR.kV hj) (hR.iv (lvV hj) (by decide) (by decide)) rfl ?_
        refine zs_iadd (n := 99) dX2_judge_98 rfl ?_
        refine zw_i (r := 7) (n := 102) dX2_judge_99 pf_X2_judge_129 hR (lvC h3 (by omega)) (hR.kd (lvC h3 (by omega))) ⟨rfl, rfl⟩ (by decide) rfl ?_
        intro M hR hv
        have hR : zRp Z Λ (wV S (u2 (u2 (gJ3 S j ((gJ2 S a j (gJ1 a j V)), pl, nx)) (140 + a) 167 (((gJ3 S j ((gJ2 S a j (gJ1 a j V)), pl, nx)) (140 + a) 167) - ((gJ3 S j ((gJ2 S a j (gJ1 a j V)), pl, nx)) (150 + j) 451))) 7 232 (((u2 (gJ3 S j ((gJ2 S a j (gJ1 a j V)), pl, nx)) (140 + a) 167 (((gJ3 S j ((gJ2 S a j (gJ1 a j V)), pl, nx)) (140 + a) 167) - ((gJ3 S j ((gJ2 S a j (gJ1 a j V)), pl, nx)) (150 + j) 451))) 7 232) + ((u2 (gJ3 S j ((gJ2 S a j (gJ1 a j V)), pl, nx)) (140 + a) 167 (((gJ3 S j ((gJ2 S a j (gJ1 a j V)), pl, nx)) (140 + a) 167) - ((gJ3 S j ((gJ2 S a j (gJ1 a j V)), pl, nx)) (150 + j) 451))) (150 + j) 451)))) M := hR
        have hP : zPl Λ ((wV S (u2 (u2 (gJ3 S j ((gJ2 S a j (gJ1 a j V)), pl, nx)) (140 + a) 167 (((gJ3 S j ((gJ2 S a j (gJ1 a j V)), pl, nx)) (140 + a) 167) - ((gJ3 S j ((gJ2 S a j (gJ1 a j V)), pl, nx)) (150 + j) 451))) 7 232 (((u2 (gJ3 S j ((gJ2 S a j (gJ1 a j V)), pl, nx)) (140 + a) 167 (((gJ3 S j ((gJ2 S a j (gJ1 a j V)), pl, nx)) (140 + a) 167) - ((gJ3 S j ((gJ2 S a j (gJ1 a j V)), pl, nx)) (150 + j) 451))) 7 232) + ((u2 (gJ3 S j ((gJ2 S a j (gJ1 a j V)), pl, nx)) (140 + a) 167 (((gJ3 S j ((gJ2 S a j (gJ1 a j V)), pl, nx)) (140 + a) 167) - ((gJ3 S j ((gJ2 S a j (gJ1 a j V)), pl, nx)) (150 + j) 451))) (150 + j) 451)))), pl, nx) M := zPl.of (T := (wV S (u2 (gJ3 S j ((gJ2 S a j (gJ1 a j V)), pl, nx)) (140 + a) 167 (((gJ3 S j ((gJ2 S a j (gJ1 a j V)), pl, nx)) (140 + a) 167) - ((gJ3 S j ((gJ2 S a j (gJ1 a j V)), pl, nx)) (150 + j) 451))), pl, nx)) hP hv rfl rfl (fun _ => rfl) (fun _ => rfl)
        refine zs_return dX2_judge_102 rfl ?_
        exact hQ _ ⟨hR, hP⟩
      · refine zs_aload_n (n := 70) dX2_judge_69 rfl rfl ?_
        refine zs_bipush (v := 100) (n := 72) dX2_judge_70 (by decide) rfl ?_
        refine zs_iconst (v := 5) (n := 73) dX2_judge_72 (by decide) rfl ?_
        refine zg_V (n := 76) (As := [.int (100 : Int32), .int (5 : Int32)]) (ci := 14) (mc := 0) (ms := 0) dX2_judge_73 ok_X9_fine ⟨ml_X2_101, im_X9_fine, sl_X9_fine⟩ rfl (hR.kV hj) rfl (Nat.le_of_ble_eq_true rfl) (by simp) (by omega) (Nat.le_refl _) (Nat.le_refl _) rfl rfl (c_fine hR hP hj ⟨by decide, by decide⟩) ?_
        intro M hR9
        have hR := hR9.1
        have hP := hR9.2
        have hRP : zRq Z Λ S ((gJ3 S j ((gJ2 S a j (gJ1 a j V)), pl, nx)), pl, nx) M := by
          unfold gJ3
          first | (rw [if_pos (zb1.mp h66)]; exact ⟨hR, hP⟩) | (rw [if_neg (by rw [zb0.mp h66]; decide)]; exact ⟨hR, hP⟩)
        have hR := hRP.1
        have hP := hRP.2
        refine zs_aload_n (n := 77) dX2_judge_76 rfl rfl ?_
        refine zs_dup (n := 78) dX2_judge_77 rfl rfl ?_
        refine zs_getv (x := ((gJ3 S j ((gJ2 S a j (gJ1 a j V)), pl, nx)) (140 + a) 167)) (n := 81) dX2_judge_78 gf_X2_123 (hR.kA ha) (hR.iv (lvA ha) (by decide) (by decide)) rfl ?_
        refine zs_aload_n (n := 82) dX2_judge_81 rfl rfl ?_
        refine zs_getv (x := ((gJ3 S j ((gJ2 S a j (gJ1 a j V)), pl, nx)) (150 + j) 451)) (n := 85) dX2_judge_82 gf_X2_126 (hR.kV hj) (hR.iv (lvV hj) (by decide) (by decide)) rfl ?_
        refine zs_isub (n := 86) dX2_judge_85 rfl ?_
        refine zw_i (r := (140 + a)) (n := 89) dX2_judge_86 pf_X2_judge_123 hR (lvA ha) (hR.kA ha) ⟨rfl, rfl⟩ (by decide) rfl ?_
        intro M hR hv
        have hR : zRp Z Λ (wV S (u2 (gJ3 S j ((gJ2 S a j (gJ1 a j V)), pl, nx)) (140 + a) 167 (((gJ3 S j ((gJ2 S a j (gJ1 a j V)), pl, nx)) (140 + a) 167) - ((gJ3 S j ((gJ2 S a j (gJ1 a j V)), pl, nx)) (150 + j) 451)))) M := hR
        have hP : zPl Λ ((wV S (u2 (gJ3 S j ((gJ2 S a j (gJ1 a j V)), pl, nx)) (140 + a) 167 (((gJ3 S j ((gJ2 S a j (gJ1 a j V)), pl, nx)) (140 + a) 167) - ((gJ3 S j ((gJ2 S a j (gJ1 a j V)), pl, nx)) (150 + j) 451)))), pl, nx) M := zPl.of (T := (wV S (gJ3 S j ((gJ2 S a j (gJ1 a j V)), pl, nx)), pl, nx)) hP hv rfl rfl (fun _ => rfl) (fun _ => rfl)
        refine zs_aload_n (n := 90) dX2_judge_89 rfl rfl ?_
        refine zs_dup (n := 91) dX2_judge_90 rfl rfl ?_
        refine zs_getv (x := ((u2 (gJ3 S j ((gJ2 S a j (gJ1 a j V)), pl, nx)) (140 + a) 167 (((gJ3 S j ((gJ2 S a j (gJ1 a j V)), pl, nx)) (140 + a) 167) - ((gJ3 S j ((gJ2 S a j (gJ1 a j V)), pl, nx)) (150 + j) 451))) 7 232)) (n := 94) dX2_judge_91 gf_X2_129 (hR.kd (lvC h3 (by omega))) (hR.iv (lvC h3 (by omega)) (by decide) (by decide)) rfl ?_
        refine zs_aload_n (n := 95) dX2_judge_94 rfl rfl ?_
        refine zs_getv (x := ((u2 (gJ3 S j ((gJ2 S a j (gJ1 a j V)), pl, nx)) (140 + a) 167 (((gJ3 S j ((gJ2 S a j (gJ1 a j V)), pl, nx)) (140 + a) 167) - ((gJ3 S j ((gJ2 S a j (gJ1 a j V)), pl, nx)) (150 + j) 451))) (150 + j) 451)) (n := 98) dX2_judge_95 gf_X2_126 (hR.kV hj) (hR.iv (lvV hj) (by decide) (by decide)) rfl ?_
        refine zs_iadd (n := 99) dX2_judge_98 rfl ?_
        refine zw_i (r := 7) (n := 102) dX2_judge_99 pf_X2_judge_129 hR (lvC h3 (by omega)) (hR.kd (lvC h3 (by omega))) ⟨rfl, rfl⟩ (by decide) rfl ?_
        intro M hR hv
        have hR : zRp Z Λ (wV S (u2 (u2 (gJ3 S j ((gJ2 S a j (gJ1 a j V)), pl, nx)) (140 + a) 167 (((gJ3 S j ((gJ2 S a j (gJ1 a j V)), pl, nx)) (140 + a) 167) - ((gJ3 S j ((gJ2 S a j (gJ1 a j V)), pl, nx)) (150 + j) 451))) 7 232 (((u2 (gJ3 S j ((gJ2 S a j (gJ1 a j V)), pl, nx)) (140 + a) 167 (((gJ3 S j ((gJ2 S a j (gJ1 a j V)), pl, nx)) (140 + a) 167) - ((gJ3 S j ((gJ2 S a j (gJ1 a j V)), pl, nx)) (150 + j) 451))) 7 232) + ((u2 (gJ3 S j ((gJ2 S a j (gJ1 a j V)), pl, nx)) (140 + a) 167 (((gJ3 S j ((gJ2 S a j (gJ1 a j V)), pl, nx)) (140 + a) 167) - ((gJ3 S j ((gJ2 S a j (gJ1 a j V)), pl, nx)) (150 + j) 451))) (150 + j) 451)))) M := hR
        have hP : zPl Λ ((wV S (u2 (u2 (gJ3 S j ((gJ2 S a j (gJ1 a j V)), pl, nx)) (140 + a) 167 (((gJ3 S j ((gJ2 S a j (gJ1 a j V)), pl, nx)) (140 + a) 167) - ((gJ3 S j ((gJ2 S a j (gJ1 a j V)), pl, nx)) (150 + j) 451))) 7 232 (((u2 (gJ3 S j ((gJ2 S a j (gJ1 a j V)), pl, nx)) (140 + a) 167 (((gJ3 S j ((gJ2 S a j (gJ1 a j V)), pl, nx)) (140 + a) 167) - ((gJ3 S j ((gJ2 S a j (gJ1 a j V)), pl, nx)) (150 + j) 451))) 7 232) + ((u2 (gJ3 S j ((gJ2 S a j (gJ1 a j V)), pl, nx)) (140 + a) 167 (((gJ3 S j ((gJ2 S a j (gJ1 a j V)), pl, nx)) (140 + a) 167) - ((gJ3 S j ((gJ2 S a j (gJ1 a j V)), pl, nx)) (150 + j) 451))) (150 + j) 451)))), pl, nx) M := zPl.of (T := (wV S (u2 (gJ3 S j ((gJ2 S a j (gJ1 a j V)), pl, nx)) (140 + a) 167 (((gJ3 S j ((gJ2 S a j (gJ1 a j V)), pl, nx)) (140 + a) 167) - ((gJ3 S j ((gJ2 S a j (gJ1 a j V)), pl, nx)) (150 + j) 451))), pl, nx)) hP hv rfl rfl (fun _ => rfl) (fun _ => rfl)
        refine zs_return dX2_judge_102 rfl ?_
        exact hQ _ ⟨hR, hP⟩
    · refine zs_aload_n (n := 41) dX2_judge_40 rfl rfl ?_
      refine zs_bipush (v := 110) (n := 43) dX2_judge_41 (by decide) rfl ?_
      refine zs_bipush (v := 10) (n := 45) dX2_judge_43 (by decide) rfl ?_
      refine zg_V (n := 48) (As := [.int (110 : Int32), .int (10 : Int32)]) (ci := 14) (mc := 0) (ms := 0) dX2_judge_45 ok_X9_fine ⟨ml_X2_101, im_X9_fine, sl_X9_fine⟩ rfl (hR.kV hj) rfl (Nat.le_of_ble_eq_true rfl) (by simp) (by omega) (Nat.le_refl _) (Nat.le_refl _) rfl rfl (c_fine hR hP hj ⟨by decide, by decide⟩) ?_
      intro M hR9
      have hR := hR9.1
      have hP := hR9.2
      have hRP : zRq Z Λ S ((gJ2 S a j (gJ1 a j V)), pl, nx) M := by
        unfold gJ2
        first | (rw [if_pos h37]; exact ⟨hR, hP⟩) | (rw [if_neg h37]; exact ⟨hR, hP⟩)
      have hR := hRP.1
      have hP := hRP.2
      refine zs_aload_n (n := 49) dX2_judge_48 rfl rfl ?_
      refine zs_getr (b := (Λ 2)) (n := 52) dX2_judge_49 gf_X2_9 (hR.kd (lvC h3 (by omega))) (hR.pt (lvC h3 (by omega)) rfl (by decide)) rfl ?_
      refine zs_aload_n (n := 53) dX2_judge_52 rfl rfl ?_
      refine zs_getr (b := (Λ (100 + (sP (wV S (gJ2 S a j (gJ1 a j V))) j)))) (n := 56) dX2_judge_53 gf_X2_73 (hR.kV hj) (hR.vp hj) rfl ?_
      refine zs_aload_n (n := 57) dX2_judge_56 rfl rfl ?_
      refine zs_getr (b := (Λ 6)) (n := 60) dX2_judge_57 gf_X2_19 (hR.kd (lvC h3 (by omega))) (hR.pt (lvC h3 (by omega)) rfl (by decide)) rfl ?_
      refine zs_getv (x := ((gJ2 S a j (gJ1 a j V)) 6 289)) (n := 63) dX2_judge_60 gf_X2_116 (hR.kd (lvC h3 (by omega))) (hR.iv (lvC h3 (by omega)) (by decide) (by decide)) rfl ?_
      refine zc_V (n := 66) (As := [.ref (Λ (100 + (sP (wV S (gJ2 S a j (gJ1 a j V))) j))), .int ((gJ2 S a j (gJ1 a j V)) 6 289)]) (ci := 12) (mc := 0) (ms := 0) dX2_judge_63 ok_X7_hasPlayingNearer ⟨ml_X2_119, im_X7_hasPlayingNearer, sl_X7_hasPlayingNearer⟩ rfl (hR.kd (lvC h3 (by omega))) rfl (Nat.le_of_ble_eq_true rfl) (by simp) (by omega) (Nat.le_refl _) (Nat.le_refl _) rfl rfl (c_hasPlayingNearer hR hP h3 (hR.vpb hj)) ?_
      refine zs_if_eq (tgt := 76) (n := 69) dX2_judge_66 (by decide) rfl (fun h66 => ?_) (fun h66 => ?_)
      · have hRP : zRq Z Λ S ((gJ3 S j ((gJ2 S a j (gJ1 a j V)), pl, nx)), pl, nx) M := by
          unfold gJ3
          first | (rw [if_pos (zb1.mp h66)]; exact ⟨hR, hP⟩) | (rw [if_neg (by rw [zb0.mp h66]; decide)]; exact ⟨hR, hP⟩)
        have hR := hRP.1
        have hP := hRP.2
        refine zs_aload_n (n := 77) dX2_judge_76 rfl rfl ?_
        refine zs_dup (n := 78) dX2_judge_77 rfl rfl ?_
        refine zs_getv (x := ((gJ3 S j ((gJ2 S a j (gJ1 a j V)), pl, nx)) (140 + a) 167)) (n := 81) dX2_judge_78 gf_X2_123 (hR.kA ha) (hR.iv (lvA ha) (by decide) (by decide)) rfl ?_
        refine zs_aload_n (n := 82) dX2_judge_81 rfl rfl ?_
        refine zs_getv (x := ((gJ3 S j ((gJ2 S a j (gJ1 a j V)), pl, nx)) (150 + j) 451)) (n := 85) dX2_judge_82 gf_X2_126 (hR.kV hj) (hR.iv (lvV hj) (by decide) (by decide)) rfl ?_
        refine zs_isub (n := 86) dX2_judge_85 rfl ?_
        refine zw_i (r := (140 + a)) (n := 89) dX2_judge_86 pf_X2_judge_123 hR (lvA ha) (hR.kA ha) ⟨rfl, rfl⟩ (by decide) rfl ?_
        intro M hR hv
        have hR : zRp Z Λ (wV S (u2 (gJ3 S j ((gJ2 S a j (gJ1 a j V)), pl, nx)) (140 + a) 167 (((gJ3 S j ((gJ2 S a j (gJ1 a j V)), pl, nx)) (140 + a) 167) - ((gJ3 S j ((gJ2 S a j (gJ1 a j V)), pl, nx)) (150 + j) 451)))) M := hR
        have hP : zPl Λ ((wV S (u2 (gJ3 S j ((gJ2 S a j (gJ1 a j V)), pl, nx)) (140 + a) 167 (((gJ3 S j ((gJ2 S a j (gJ1 a j V)), pl, nx)) (140 + a) 167) - ((gJ3 S j ((gJ2 S a j (gJ1 a j V)), pl, nx)) (150 + j) 451)))), pl, nx) M := zPl.of (T := (wV S (gJ3 S j ((gJ2 S a j (gJ1 a j V)), pl, nx)), pl, nx)) hP hv rfl rfl (fun _ => rfl) (fun _ => rfl)
        refine zs_aload_n (n := 90) dX2_judge_89 rfl rfl ?_
        refine zs_dup (n := 91) dX2_judge_90 rfl rfl ?_
        refine zs_getv (x := ((u2 (gJ3 S j ((gJ2 S a j (gJ1 a j V)), pl, nx)) (140 + a) 167 (((gJ3 S j ((gJ2 S a j (gJ1 a j V)), pl, nx)) (140 + a) 167) - ((gJ3 S j ((gJ2 S a j (gJ1 a j V)), pl, nx)) (150 + j) 451))) 7 232)) (n := 94) dX2_judge_91 gf_X2_129 (hR.kd (lvC h3 (by omega))) (hR.iv (lvC h3 (by omega)) (by decide) (by decide)) rfl ?_
        refine zs_aload_n (n := 95) dX2_judge_94 rfl rfl ?_
        refine zs_getv (x := ((u2 (gJ3 S j ((gJ2 S a j (gJ1 a j V)), pl, nx)) (140 + a) 167 (((gJ3 S j ((gJ2 S a j (gJ1 a j V)), pl, nx)) (140 + a) 167) - ((gJ3 S j ((gJ2 S a j (gJ1 a j V)), pl, nx)) (150 + j) 451))) (150 + j) 451)) (n := 98) dX2_judge_95 gf_X2_126 (hR.kV hj) (hR.iv (lvV hj) (by decide) (by decide)) rfl ?_
        refine zs_iadd (n := 99) dX2_judge_98 rfl ?_
        refine zw_i (r := 7) (n := 102) dX2_judge_99 pf_X2_judge_129 hR (lvC h3 (by omega)) (hR.kd (lvC h3 (by omega))) ⟨rfl, rfl⟩ (by decide) rfl ?_
        intro M hR hv
        have hR : zRp Z Λ (wV S (u2 (u2 (gJ3 S j ((gJ2 S a j (gJ1 a j V)), pl, nx)) (140 + a) 167 (((gJ3 S j ((gJ2 S a j (gJ1 a j V)), pl, nx)) (140 + a) 167) - ((gJ3 S j ((gJ2 S a j (gJ1 a j V)), pl, nx)) (150 + j) 451))) 7 232 (((u2 (gJ3 S j ((gJ2 S a j (gJ1 a j V)), pl, nx)) (140 + a) 167 (((gJ3 S j ((gJ2 S a j (gJ1 a j V)), pl, nx)) (140 + a) 167) - ((gJ3 S j ((gJ2 S a j (gJ1 a j V)), pl, nx)) (150 + j) 451))) 7 232) + ((u2 (gJ3 S j ((gJ2 S a j (gJ1 a j V)), pl, nx)) (140 + a) 167 (((gJ3 S j ((gJ2 S a j (gJ1 a j V)), pl, nx)) (140 + a) 167) - ((gJ3 S j ((gJ2 S a j (gJ1 a j V)), pl, nx)) (150 + j) 451))) (150 + j) 451)))) M := hR
        have hP : zPl Λ ((wV S (u2 (u2 (gJ3 S j ((gJ2 S a j (gJ1 a j V)), pl, nx)) (140 + a) 167 (((gJ3 S j ((gJ2 S a j (gJ1 a j V)), pl, nx)) (140 + a) 167) - ((gJ3 S j ((gJ2 S a j (gJ1 a j V)), pl, nx)) (150 + j) 451))) 7 232 (((u2 (gJ3 S j ((gJ2 S a j (gJ1 a j V)), pl, nx)) (140 + a) 167 (((gJ3 S j ((gJ2 S a j (gJ1 a j V)), pl, nx)) (140 + a) 167) - ((gJ3 S j ((gJ2 S a j (gJ1 a j V)), pl, nx)) (150 + j) 451))) 7 232) + ((u2 (gJ3 S j ((gJ2 S a j (gJ1 a j V)), pl, nx)) (140 + a) 167 (((gJ3 S j ((gJ2 S a j (gJ1 a j V)), pl, nx)) (140 + a) 167) - ((gJ3 S j ((gJ2 S a j (gJ1 a j V)), pl, nx)) (150 + j) 451))) (150 + j) 451)))), pl, nx) M := zPl.of (T := (wV S (u2 (gJ3 S j ((gJ2 S a j (gJ1 a j V)), pl, nx)) (140 + a) 167 (((gJ3 S j ((gJ2 S a j (gJ1 a j V)), pl, nx)) (140 + a) 167) - ((gJ3 S j ((gJ2 S a j (gJ1 a j V)), pl, nx)) (150 + j) 451))), pl, nx)) hP hv rfl rfl (fun _ => rfl) (fun _ => rfl)
        refine zs_return dX2_judge_102 rfl ?_
        exact hQ _ ⟨hR, hP⟩
      · refine zs_aload_n (n := 70) dX2_judge_69 rfl rfl ?_
        refine zs_bipush (v := 100) (n := 72) dX2_judge_70 (by decide) rfl ?_
        refine zs_iconst (v := 5) (n := 73) dX2_judge_72 (by decide) rfl ?_
        refine zg_V (n := 76) (As := [.int (100 : Int32), .int (5 : Int32)]) (ci := 14) (mc := 0) (ms := 0) dX2_judge_73 ok_X9_fine ⟨ml_X2_101, im_X9_fine, sl_X9_fine⟩ rfl (hR.kV hj) rfl (Nat.le_of_ble_eq_true rfl) (by simp) (by omega) (Nat.le_refl _) (Nat.le_refl _) rfl rfl (c_fine hR hP hj ⟨by decide, by decide⟩) ?_
        intro M hR9
        have hR := hR9.1
        have hP := hR9.2
        have hRP : zRq Z Λ S ((gJ3 S j ((gJ2 S a j (gJ1 a j V)), pl, nx)), pl, nx) M := by
          unfold gJ3
          first | (rw [if_pos (zb1.mp h66)]; exact ⟨hR, hP⟩) | (rw [if_neg (by rw [zb0.mp h66]; decide)]; exact ⟨hR, hP⟩)
        have hR := hRP.1
        have hP := hRP.2
        refine zs_aload_n (n := 77) dX2_judge_76 rfl rfl ?_
        refine zs_dup (n := 78) dX2_judge_77 rfl rfl ?_
        refine zs_getv (x := ((gJ3 S j ((gJ2 S a j (gJ1 a j V)), pl, nx)) (140 + a) 167)) (n := 81) dX2_judge_78 gf_X2_123 (hR.kA ha) (hR.iv (lvA ha) (by decide) (by decide)) rfl ?_
        refine zs_aload_n (n := 82) dX2_judge_81 rfl rfl ?_
        refine zs_getv (x := ((gJ3 S j ((gJ2 S a j (gJ1 a j V)), pl, nx)) (150 + j) 451)) (n := 85) dX2_judge_82 gf_X2_126 (hR.kV hj) (hR.iv (lvV hj) (by decide) (by decide)) rfl ?_
        refine zs_isub (n := 86) dX2_judge_85 rfl ?_
        refine zw_i (r := (140 + a)) (n := 89) dX2_judge_86 pf_X2_judge_123 hR (lvA ha) (hR.kA ha) ⟨rfl, rfl⟩ (by decide) rfl ?_
        intro M hR hv
        have hR : zRp Z Λ (wV S (u2 (gJ3 S j ((gJ2 S a j (gJ1 a j V)), pl, nx)) (140 + a) 167 (((gJ3 S j ((gJ2 S a j (gJ1 a j V)), pl, nx)) (140 + a) 167) - ((gJ3 S j ((gJ2 S a j (gJ1 a j V)), pl, nx)) (150 + j) 451)))) M := hR
        have hP : zPl Λ ((wV S (u2 (gJ3 S j ((gJ2 S a j (gJ1 a j V)), pl, nx)) (140 + a) 167 (((gJ3 S j ((gJ2 S a j (gJ1 a j V)), pl, nx)) (140 + a) 167) - ((gJ3 S j ((gJ2 S a j (gJ1 a j V)), pl, nx)) (150 + j) 451)))), pl, nx) M := zPl.of (T := (wV S (gJ3 S j ((gJ2 S a j (gJ1 a j V)), pl, nx)), pl, nx)) hP hv rfl rfl (fun _ => rfl) (fun _ => rfl)
        refine zs_aload_n (n := 90) dX2_judge_89 rfl rfl ?_
        refine zs_dup (n := 91) dX2_judge_90 rfl rfl ?_
        refine zs_getv (x := ((u2 (gJ3 S j ((gJ2 S a j (gJ1 a j V)), pl, nx)) (140 + a) 167 (((gJ3 S j ((gJ2 S a j (gJ1 a j V)), pl, nx)) (140 + a) 167) - ((gJ3 S j ((gJ2 S a j (gJ1 a j V)), pl, nx)) (150 + j) 451))) 7 232)) (n := 94) dX2_judge_91 gf_X2_129 (hR.kd (lvC h3 (by omega))) (hR.iv (lvC h3 (by omega)) (by decide) (by decide)) rfl ?_
        refine zs_aload_n (n := 95) dX2_judge_94 rfl rfl ?_
        refine zs_getv (x := ((u2 (gJ3 S j ((gJ2 S a j (gJ1 a j V)), pl, nx)) (140 + a) 167 (((gJ3 S j ((gJ2 S a j (gJ1 a j V)), pl, nx)) (140 + a) 167) - ((gJ3 S j ((gJ2 S a j (gJ1 a j V)), pl, nx)) (150 + j) 451))) (150 + j) 451)) (n := 98) dX2_judge_95 gf_X2_126 (hR.kV hj) (hR.iv (lvV hj) (by decide) (by decide)) rfl ?_
        refine zs_iadd (n := 99) dX2_judge_98 rfl ?_
        refine zw_i (r := 7) (n := 102) dX2_judge_99 pf_X2_judge_129 hR (lvC h3 (by omega)) (hR.kd (lvC h3 (by omega))) ⟨rfl, rfl⟩ (by decide) rfl ?_
        intro M hR hv
        have hR : zRp Z Λ (wV S (u2 (u2 (gJ3 S j ((gJ2 S a j (gJ1 a j V)), pl, nx)) (140 + a) 167 (((gJ3 S j ((gJ2 S a j (gJ1 a j V)), pl, nx)) (140 + a) 167) - ((gJ3 S j ((gJ2 S a j (gJ1 a j V)), pl, nx)) (150 + j) 451))) 7 232 (((u2 (gJ3 S j ((gJ2 S a j (gJ1 a j V)), pl, nx)) (140 + a) 167 (((gJ3 S j ((gJ2 S a j (gJ1 a j V)), pl, nx)) (140 + a) 167) - ((gJ3 S j ((gJ2 S a j (gJ1 a j V)), pl, nx)) (150 + j) 451))) 7 232) + ((u2 (gJ3 S j ((gJ2 S a j (gJ1 a j V)), pl, nx)) (140 + a) 167 (((gJ3 S j ((gJ2 S a j (gJ1 a j V)), pl, nx)) (140 + a) 167) - ((gJ3 S j ((gJ2 S a j (gJ1 a j V)), pl, nx)) (150 + j) 451))) (150 + j) 451)))) M := hR
        have hP : zPl Λ ((wV S (u2 (u2 (gJ3 S j ((gJ2 S a j (gJ1 a j V)), pl, nx)) (140 + a) 167 (((gJ3 S j ((gJ2 S a j (gJ1 a j V)), pl, nx)) (140 + a) 167) - ((gJ3 S j ((gJ2 S a j (gJ1 a j V)), pl, nx)) (150 + j) 451))) 7 232 (((u2 (gJ3 S j ((gJ2 S a j (gJ1 a j V)), pl, nx)) (140 + a) 167 (((gJ3 S j ((gJ2 S a j (gJ1 a j V)), pl, nx)) (140 + a) 167) - ((gJ3 S j ((gJ2 S a j (gJ1 a j V)), pl, nx)) (150 + j) 451))) 7 232) + ((u2 (gJ3 S j ((gJ2 S a j (gJ1 a j V)), pl, nx)) (140 + a) 167 (((gJ3 S j ((gJ2 S a j (gJ1 a j V)), pl, nx)) (140 + a) 167) - ((gJ3 S j ((gJ2 S a j (gJ1 a j V)), pl, nx)) (150 + j) 451))) (150 + j) 451)))), pl, nx) M := zPl.of (T := (wV S (u2 (gJ3 S j ((gJ2 S a j (gJ1 a j V)), pl, nx)) (140 + a) 167 (((gJ3 S j ((gJ2 S a j (gJ1 a j V)), pl, nx)) (140 + a) 167) - ((gJ3 S j ((gJ2 S a j (gJ1 a j V)), pl, nx)) (150 + j) 451))), pl, nx)) hP hv rfl rfl (fun _ => rfl) (fun _ => rfl)
        refine zs_return dX2_judge_102 rfl ?_
        exact hQ _ ⟨hR, hP⟩
def gVis (S : zSt) (m j : Nat) (t : zVp) : zVp := match t.2.1 (sP S j) with
  | none => t
  | some k => if t.1 (150 + j) 449 = nI m then gJudge S (sT S (sP S j) k) j t else t
def gVisAll (S : zSt) (m j : Nat) (t : zVp) : zVp := zit (fun j t => gVis S m j t) j t
theorem c_payVisits {m : Nat} (hR : zRp Z Λ (wV S V) M) (hP : zPl Λ (wV S V, pl, nx) M) (h3 : sc S 3 = 1) : zG Z l 5 mth_X2_payVisits [.ref (Λ 7), .int (nI m)] M 0 0 none (zRq Z Λ S (gVisAll S m (sc S 2) (V, pl, nx))) := by
  intro Q hQ
  show zX Z l 5 mth_X2_payVisits 0 [(0, .ref (Λ 7)), (1, .int (nI m))] [] M 0 0 Q
  refine zs_iconst (v := 0) (n := 1) dX2_payVisits_0 (by decide) rfl ?_
  refine zs_istore_n (n := 2) dX2_payVisits_1 (by decide) rfl ?_
  refine zX.sub (L' := [(0, .ref (Λ 7)), (1, .int (nI m)), (2, .int (nI 0))]) ⟨rfl, rfl, rfl, trivial⟩ ?_
  refine zloop (n := sc S 2) (X := fun j => ∀ M, zRq Z Λ S (gVisAll S m j (V, pl, nx)) M → zX Z l 5 mth_X2_payVisits 2 [(0, .ref (Λ 7)), (1, .int (nI m)), (2, .int (nI j))] [] M 0 0 Q) (fun j hj ih => ?_) ?_ 0 (Nat.zero_le _) M ?_
  · intro M hR9
    have hR := hR9.1
    have hP := hR9.2
    have hb : sc S 2 ≤ _ := hR.bnd.1.2.2.1
    refine zs_iload_n (n := 3) dX2_payVisits_2 rfl rfl ?_
    refine zs_aload_n (n := 4) dX2_payVisits_3 rfl rfl ?_
    refine zs_getr (b := (Λ 19)) (n := 7) dX2_payVisits_4 gf_X2_26 (hR.kd (lvC h3 (by omega))) (hR.pt (lvC h3 (by omega)) rfl (by decide)) rfl ?_
    refine zc_size (c := sc S 2) (n := 10) dX2_payVisits_7 ml_X2_63 (hR.lV h3) (by simp) (by omega) rfl ?_
    refine zs_icmp_ge (tgt := 63) (n := 13) dX2_payVisits_10 (by decide) rfl (fun h => absurd h (nI_ge hj (by omega))) (fun _ => ?_)
    refine zs_aload_n (n := 14) dX2_payVisits_13 rfl rfl ?_
    refine zs_getr (b := (Λ 19)) (n := 17) dX2_payVisits_14 gf_X2_26 (hR.kd (lvC h3 (by omega))) (hR.pt (lvC h3 (by omega)) rfl (by decide)) rfl ?_
    refine zs_iload_n (n := 18) dX2_payVisits_17 rfl rfl ?_
    refine zc_getb (c := sc S 2) (b := (Λ (150 + j))) (n := 21) dX2_payVisits_18 ml_X2_67 (hR.lV h3) hj rfl (by simp) (by omega) rfl ?_
    refine zs_castS (ci := 14) (n := 24) dX2_payVisits_21 rfl cl_X2_71 (hR.kV hj) rfl ?_
    refine zs_astore_n (n := 25) dX2_payVisits_24 (by decide) rfl ?_
    refine zs_aload_n (n := 26) dX2_payVisits_25 rfl rfl ?_
    refine zs_getr (b := (Λ (100 + (sP (wV S (gVisAll S m j (V, pl, nx)).1) j)))) (n := 29) dX2_payVisits_26 gf_X2_73 (hR.kV hj) (hR.vp hj) rfl ?_
    rcases zopt ((gVisAll S m j (V, pl, nx)).2.1 (sP (wV S (gVisAll S m j (V, pl, nx)).1) j)) with hpl29 | ⟨k29, hpl29⟩
    · refine zs_getN (n := 32) dX2_payVisits_29 gf_X2_77 (hR.kP (hR.vpb hj)) (((hP.1 _ (hR.vpb hj)).1.1).trans (by show ((gVisAll S m j (V, pl, nx)).2.1 (sP (wV S (gVisAll S m j (V, pl, nx)).1) j)).map _ = _; rw [hpl29]; rfl)) rfl ?_
      refine zs_astoreN (n := 34) dX2_payVisits_32 (by decide) rfl ?_
      refine zs_aload_n (n := 35) dX2_payVisits_34 rfl rfl ?_
      refine zs_getv (x := ((gVisAll S m j (V, pl, nx)).1 (150 + j) 449)) (n := 38) dX2_payVisits_35 gf_X2_83 (hR.kV hj) (hR.iv (lvV hj) (by decide) (by decide)) rfl ?_
      refine zs_iload_n (n := 39) dX2_payVisits_38 rfl rfl ?_
      refine zs_icmp_ne (tgt := 57) (n := 42) dX2_payVisits_39 (by decide) rfl (fun h39 => ?_) (fun h39 => ?_)
      · refine zs_iinc (v := (nI (j + 1))) (n := 60) dX2_payVisits_57 rfl (nI_1 _) (by decide) rfl ?_
        refine zs_goto (tgt := 2) dX2_payVisits_60 (by decide) ?_
        refine zX.sub (L' := [(0, .ref (Λ 7)), (1, .int (nI m)), (2, .int (nI (j + 1)))]) ⟨rfl, rfl, rfl, trivial⟩ ?_
        refine ih M ?_
        show zRq Z Λ S (gVis S m j (gVisAll S m j (V, pl, nx))) M
        unfold gVis
        simp only [hpl29]
        first | exact ⟨hR, hP⟩ | (rw [if_neg h39]; exact ⟨hR, hP⟩) | (rw [if_pos h39]; exact ⟨hR, hP⟩)
      · refine zs_aloadN (n := 44) dX2_payVisits_42 rfl rfl ?_
        refine zs_ifnullN (tgt := 57) dX2_payVisits_44 (by decide) ?_
        refine zs_iinc (v := (nI (j + 1))) (n := 60) dX2_payVisits_57 rfl (nI_1 _) (by decide) rfl ?_
        refine zs_goto (tgt := 2) dX2_payVisits_60 (by decide) ?_
        refine zX.sub (L' := [(0, .ref (Λ 7)), (1, .int (nI m)), (2, .int (nI (j + 1)))]) ⟨rfl, rfl, rfl, trivial⟩ ?_
        refine ih M ?_
        show zRq Z Λ S (gVis S m j (gVisAll S m j (V, pl, nx))) M
        unfold gVis
        simp only [hpl29]
        first | exact ⟨hR, hP⟩ | (rw [if_neg h39]; exact ⟨hR, hP⟩) | (rw [if_pos h39]; exact ⟨hR, hP⟩)
    · have hk29 := (hP.1 _ (hR.vpb hj)).1.2 k29 hpl29
      refine zs_getr (b := (Λ (160 + 8 * (sP (wV S (gVisAll S m j (V, pl, nx)).1) j) + k29))) (n := 32) dX2_payVisits_29 gf_X2_77 (hR.kP (hR.vpb hj)) (((hP.1 _ (hR.vpb hj)).1.1).trans (by show ((gVisAll S m j (V, pl, nx)).2.1 (sP (wV S (gVisAll S m j (V, pl, nx)).1) j)).map _ = _; rw [hpl29]; rfl)) rfl ?_
      refine zs_astore (n := 34) dX2_payVisits_32 (by decide) rfl ?_
      refine zs_aload_n (n := 35) dX2_payVisits_34 rfl rfl ?_
      refine zs_getv (x := ((gVisAll S m j (V, pl, nx)).1 (150 + j) 449)) (n := 38) dX2_payVisits_35 gf_X2_83 (hR.kV hj) (hR.iv (lvV hj) (by decide) (by decide)) rfl ?_
      refine zs_iload_n (n := 39) dX2_payVisits_38 rfl rfl ?_
      refine zs_icmp_ne (tgt := 57) (n := 42) dX2_payVisits_39 (by decide) rfl (fun h39 => ?_) (fun h39 => ?_)
      · refine zs_iinc (v := (nI (j + 1))) (n := 60) dX2_payVisits_57 rfl (nI_1 _) (by decide) rfl ?_
        refine zs_goto (tgt := 2) dX2_payVisits_60 (by decide) ?_
        refine zX.sub (L' := [(0, .ref (Λ 7)), (1, .int (nI m)), (2, .int (nI (j + 1)))]) ⟨rfl, rfl, rfl, trivial⟩ ?_
        refine ih M ?_
        show zRq Z Λ S (gVis S m j (gVisAll S m j (V, pl, nx))) M
        unfold gVis
        simp only [hpl29]
        first | exact ⟨hR, hP⟩ | (rw [if_neg h39]; exact ⟨hR, hP⟩) | (rw [if_pos h39]; exact ⟨hR, hP⟩)
      · refine zs_aload (n := 44) dX2_payVisits_42 rfl rfl ?_
        refine zs_ifnull (n := 47) dX2_payVisits_44 rfl ?_
        refine zs_aload_n (n := 48) dX2_payVisits_47 rfl rfl ?_
        refine zs_aload_n (n := 49) dX2_payVisits_48 rfl rfl ?_
        refine zs_aload (n := 51) dX2_payVisits_49 rfl rfl ?_
        refine zs_getr (b := (Λ (140 + (sT (wV S (gVisAll S m j (V, pl, nx)).1) (sP (wV S (gVisAll S m j (V, pl, nx)).1) j) k29)))) (n := 54) dX2_payVisits_51 gf_X2_86 (hR.kK (hR.vpb hj) hk29) (hR.act (hR.vpb hj) hk29) rfl ?_
        refine zg_V (n := 57) (As := [.ref (Λ (150 + j)), .ref (Λ (140 + (sT (wV S (gVisAll S m j (V, pl, nx)).1) (sP (wV S (gVisAll S m j (V, pl, nx)).1) j) k29)))]) (ci := 7) (mc := 0) (ms := 0) dX2_payVisits_54 ok_X2_judge ⟨ml_X2_92, im_X2_judge, sl_X2_judge⟩ rfl (hR.kd (lvC h3 (by omega))) rfl (Nat.le_of_ble_eq_true rfl) (by simp) (by omega) (Nat.le_refl _) (Nat.le_refl _) rfl rfl (c_judge hR hP h3 hj (hR.actb (hR.vpb hj) hk29)) ?_
        intro M hR9
        have hR := hR9.1
        have hP := hR9.2
        refine zs_iinc (v := (nI (j + 1))) (n := 60) dX2_payVisits_57 rfl (nI_1 _) (by decide) rfl ?_
        refine zs_goto (tgt := 2) dX2_payVisits_60 (by decide) ?_
        refine zX.sub (L' := [(0, .ref (Λ 7)), (1, .int (nI m)), (2, .int (nI (j + 1)))]) ⟨rfl, rfl, rfl, trivial⟩ ?_
        refine ih M ?_
        show zRq Z Λ S (gVis S m j (gVisAll S m j (V, pl, nx))) M
        unfold gVis
        simp only [hpl29]
        first | exact ⟨hR, hP⟩ | (rw [if_neg h39]; exact ⟨hR, hP⟩) | (rw [if_pos h39]; exact ⟨hR, hP⟩)
  · intro M hR9
    have hR := hR9.1
    have hP := hR9.2
    have hb : sc S 2 ≤ _ := hR.bnd.1.2.2.1
    refine zs_iload_n (n := 3) dX2_payVisits_2 rfl rfl ?_
    refine zs_aload_n (n := 4) dX2_payVisits_3 rfl rfl ?_
    refine zs_getr (b := (Λ 19)) (n := 7) dX2_payVisits_4 gf_X2_26 (hR.kd (lvC h3 (by omega))) (hR.pt (lvC h3 (by omega)) rfl (by decide)) rfl ?_
    refine zc_size (c := sc S 2) (n := 10) dX2_payVisits_7 ml_X2_63 (hR.lV h3) (by simp) (by omega) rfl ?_
    refine zs_icmp_ge (tgt := 63) (n := 13) dX2_payVisits_10 (by decide) rfl (fun _ => ?_) (fun h => absurd (nI_le (Nat.le_refl _) (by omega)) h)
    refine zs_return dX2_payVisits_63 rfl ?_
    exact hQ _ hR9
  · exact ⟨hR, hP⟩
def gWet (V : Nat → Nat → Int32) (i m : Nat) : Bool := gRain V (nI m) && decide (V (100 + i) 354 = 0)
def gStop (S : zSt) (i k m : Nat) (V : Nat → Nat → Int32) : Int32 := fPass (wV S V) i m * (10 * V (140 + sT S i k) 163 + (if 40 < V (160 + 8 * i + k) 419 then 40 else V (160 + 8 * i + k) 419)) / 100
def gGath (S : zSt) (i k m : Nat) (t : zVp) : Nat → Nat → Int32 :=
  if gDrown S (sT S i k) i t = true then
    (if gWet t.1 i m = true then gMove (160 + 8 * i + k) 0 (t.1 (160 + 8 * i + k) 419 * (t.1 5 482 + Int32.ofInt 10 + Int32.ofInt 50) / 100) (u2 t.1 (160 + 8 * i + k) 422 (t.1 (160 + 8 * i + k) 422 + 1))
     else gMove (160 + 8 * i + k) (gStop S i k m t.1 / 2) (t.1 (160 + 8 * i + k) 419 * (t.1 5 482 + Int32.ofInt 10) / 100) (u2 t.1 (160 + 8 * i + k) 422 (t.1 (160 + 8 * i + k) 422 + 1)))
  else
    (if gWet t.1 i m = true then gMove (160 + 8 * i + k) 0 (t.1 (160 + 8 * i + k) 419 * (t.1 5 482 + Int32.ofInt 50) / 100) t.1
     else gMove (160 + 8 * i + k) (gStop S i k m t.1) (t.1 (160 + 8 * i + k) 419 * t.1 5 482 / 100) t.1)
theorem c_gather {i k m : Nat} (hR : zRp Z Λ (wV S V) M) (hP : zPl Λ (wV S V, pl, nx) M) (h3 : sc S 3 = 1)(hi : i < sc S 0) (hk : k < sc S (10 + i)) (h6 : 600 ≤ m) (h12 : m < 1200) : zG Z l 5 mth_X2_gather [.ref (Λ 7), .ref (Λ (100 + i)), .ref (Λ (160 + 8 * i + k)), .int (nI m)] M 0 0 none (zRq Z Λ S (gGath S i k m (V, pl, nx), pl, nx)) := by
  intro Q hQ
  show zX Z l 5 mth_X2_gather 0 [(0, .ref (Λ 7)), (1, .ref (Λ (100 + i))), (2, .ref (Λ (160 + 8 * i + k))), (3, .int (nI m))] [] M 0 0 Q
  refine zs_aload_n (n := 1) dX2_gather_0 rfl rfl ?_
  refine zs_getr (b := (Λ 5)) (n := 4) dX2_gather_1 gf_X2_15 (hR.kd (lvC h3 (by omega))) (hR.pt (lvC h3 (by omega)) rfl (by decide)) rfl ?_
  refine zs_iload_n (n := 5) dX2_gather_4 rfl rfl ?_
  refine zc_V (n := 8) (As := [.int (nI m)]) (ci := 15) (mc := 0) (ms := 0) dX2_gather_5 ok_X10_isRaining ⟨ml_X2_143, im_X10_isRaining, sl_X10_isRaining⟩ rfl (hR.kd (lvC h3 (by omega))) rfl (Nat.le_of_ble_eq_true rfl) (by simp) (by omega) (Nat.le_refl _) (Nat.le_refl _) rfl rfl (c_isRaining hR h3) ?_
  refine zs_if_eq (tgt := 22) (n := 11) dX2_gather_8 (by decide) rfl (fun h8 => ?_) (fun h8 => ?_)
  · refine zs_iconst (v := 0) (n := 23) dX2_gather_22 (by decide) rfl ?_
    refine zX.top (show (0 : Int32) = zb (gWet V i m) from by unfold gWet; first | (rw [zb0.mp h8]; rfl) | (rw [zb1.mp h8, decide_eq_true h15]; rfl) | (rw [zb1.mp h8, decide_eq_false h15]; rfl)) ?_
    refine zs_istore (n := 25) dX2_gather_23 (by decide) rfl ?_
    refine zs_aload_n (n := 26) dX2_gather_25 rfl rfl ?_
    refine zs_getr (b := (Λ 2)) (n := 29) dX2_gather_26 gf_X2_9 (hR.kd (lvC h3 (by omega))) (hR.pt (lvC h3 (by omega)) rfl (by decide)) rfl ?_
    refine zs_aload_n (n := 30) dX2_gather_29 rfl rfl ?_
    refine zs_getr (b := (Λ (140 + (sT (wV S V) i k)))) (n := 33) dX2_gather_30 gf_X2_86 (hR.kK hi hk) (hR.act hi hk) rfl ?_
    refine zs_aload_n (n := 34) dX2_gather_33 rfl rfl ?_
    refine zc_V (n := 37) (As := [.ref (Λ (140 + (sT (wV S V) i k))), .ref (Λ (100 + i))]) (ci := 12) (mc := 0) (ms := 0) dX2_gather_34 ok_X7_isDrowned ⟨ml_X2_152, im_X7_isDrowned, sl_X7_isDrowned⟩ rfl (hR.kd (lvC h3 (by omega))) rfl (Nat.le_of_ble_eq_true rfl) (by simp) (by omega) (Nat.le_refl _) (Nat.le_refl _) rfl rfl (c_isDrowned hR hP h3 (hR.actb hi hk) hi) ?_
    refine zs_istore (n := 39) dX2_gather_37 (by decide) rfl ?_
    refine zs_bipush (v := 10) (n := 41) dX2_gather_39 (by decide) rfl ?_
    refine zs_aload_n (n := 42) dX2_gather_41 rfl rfl ?_
    refine zs_getr (b := (Λ (140 + (sT (wV S V) i k)))) (n := 45) dX2_gather_42 gf_X2_86 (hR.kK hi hk) (hR.act hi hk) rfl ?_
    refine zs_getv (x := (V (140 + (sT (wV S V) i k)) 163)) (n := 48) dX2_gather_45 gf_X2_156 (hR.kA (hR.actb hi hk)) (hR.iv (lvA (hR.actb hi hk)) (by decide) (by decide)) rfl ?_
    refine zs_imul (n := 49) dX2_gather_48 rfl ?_
    refine zs_aload_n (n := 50) dX2_gather_49 rfl rfl ?_
    refine zs_getv (x := (V (160 + 8 * i + k) 419)) (n := 53) dX2_gather_50 gf_X2_159 (hR.kK hi hk) (hR.iv (lvK hi hk) (by decide) (by decide)) rfl ?_
    refine zs_bipush (v := 40) (n := 55) dX2_gather_53 (by decide) rfl ?_
    refine zs_min (n := 58) dX2_gather_55 ⟨⟨tw_5 _ (List.mem_of_getElem? (i := 133) (by decide +kernel)), by decide +kernel⟩, w_i1, w_m2, w_i3⟩ (by simp) rfl ?_
    refine zs_iadd (n := 59) dX2_gather_58 rfl ?_
    refine zs_istore (n := 61) dX2_gather_59 (by decide) rfl ?_
    refine zs_aload_n (n := 62) dX2_gather_61 rfl rfl ?_
    refine zs_iload_n (n := 63) dX2_gather_62 rfl rfl ?_
    refine zc_V (n := 66) (As := [.int (nI m)]) (ci := 11) (mc := 0) (ms := 0) dX2_gather_63 ok_X6_passersIn ⟨ml_X2_168, im_X6_passersIn, sl_X6_passersIn⟩ rfl (hR.kP hi) rfl (Nat.le_of_ble_eq_true rfl) (by simp) (by omega) (Nat.le_refl _) (Nat.le_refl _) rfl rfl (c_passersIn hR hi (by omega) (by omega)) ?_
    refine zs_iload (n := 68) dX2_gather_66 rfl rfl ?_
    refine zs_imul (n := 69) dX2_gather_68 rfl ?_
    refine zs_bipush (v := 100) (n := 71) dX2_gather_69 (by decide) rfl ?_
    refine zs_idiv (n := 72) dX2_gather_71 (by decide) rfl ?_
    refine zs_istore (n := 74) dX2_gather_72 (by decide) rfl ?_
    refine zs_aload_n (n := 75) dX2_gather_74 rfl rfl ?_
    refine zs_getr (b := (Λ 5)) (n := 78) dX2_gather_75 gf_X2_15 (hR.kd (lvC h3 (by omega))) (hR.pt (lvC h3 (by omega)) rfl (by decide)) rfl ?_
    refine zs_getv (x := (V 5 482)) (n := 81) dX2_gather_78 gf_X2_172 (hR.kd (lvC h3 (by omega))) (hR.iv (lvC h3 (by omega)) (by decide) (by decide)) rfl ?_
    refine zs_istore (n := 83) dX2_gather_81 (by decide) rfl ?_
    refine zs_iload (n := 85) dX2_gather_83 rfl rfl ?_
    refine zs_if_eq (tgt := 107) (n := 88) dX2_gather_85 (by decide) rfl (fun h85 => ?_) (fun h85 => ?_)
    · refine zs_iload (n := 109) dX2_gather_107 rfl rfl ?_
      refine zs_if_eq (tgt := 118) (n := 112) dX2_gather_109 (by decide) rfl (fun h109 => ?_) (fun h109 => ?_)
      · refine zs_aload_n (n := 119) dX2_gather_118 rfl rfl ?_
        refine zs_iload (n := 121) dX2_gather_119 rfl rfl ?_
        refine zs_aload_n (n := 122) dX2_gather_121 rfl rfl ?_
        refine zs_getv (x := (V (160 + 8 * i + k) 419)) (n := 125) dX2_gather_122 gf_X2_159 (hR.kK hi hk) (hR.iv (lvK hi hk) (by decide) (by decide)) rfl ?_
        refine zs_iload (n := 127) dX2_gather_125 rfl rfl ?_
        refine zs_imul (n := 128) dX2_gather_127 rfl ?_
        refine zs_bipush (v := 100) (n := 130) dX2_gather_128 (by decide) rfl ?_
        refine zs_idiv (n := 131) dX2_gather_130 (by decide) rfl ?_
        refine zg_V (n := 134) (As := [.int (((fPass (wV S V) i m) * (((10 : Int32) * (V (140 + (sT (wV S V) i k)) 163)) + (if (40 : Int32) < (V (160 + 8 * i + k) 419) then (40 : Int32) else (V (160 + 8 * i + k) 419)))) / (100 : Int32)), .int (((V (160 + 8 * i + k) 419) * (V 5 482)) / (100 : Int32))]) (ci := 13) (mc := 0) (ms := 0) dX2_gather_131 ok_X8_move ⟨ml_X2_178, im_X8_move, sl_X8_move⟩ rfl (hR.kK hi hk) rfl (Nat.le_of_ble_eq_true rfl) (by simp) (by omega) (Nat.le_refl _) (Nat.le_refl _) rfl rfl (c_move hR hP hi hk) ?_
        intro M hR9
        have hR := hR9.1
        have hP := hR9.2
        refine zs_return dX2_gather_134 rfl ?_
        refine hQ _ ?_
        unfold gGath
        first
        | (rw [if_pos (zb1.mp h85), if_pos (zb1.mp h109)]; exact ⟨hR, hP⟩)
        | (rw [if_pos (zb1.mp h85), if_neg (by rw [zb0.mp h109]; decide)]; exact ⟨hR, hP⟩)
        | (rw [if_neg (by rw [zb0.mp h85]; decide), if_pos (zb1.mp h109)]; exact ⟨hR, hP⟩)
        | (rw [if_neg (by rw [zb0.mp h85]; decide), if_neg (by rw [zb0.mp h109]; decide)]; exact ⟨hR, hP⟩)
      · refine zs_iconst (v := 0) (n := 113) dX2_gather_112 (by decide) rfl ?_
        refine zs_istore (n := 115) dX2_gather_113 (by decide) rfl ?_
        refine zs_iinc (n := 118) dX2_gather_115 rfl rfl (by decide) rfl ?_
        refine zs_aload_n (n := 119) dX2_gather_118 rfl rfl ?_
        refine zs_iload (n := 121) dX2_gather_119 rfl rfl ?_
        refine zs_aload_n (n := 122) dX2_gather_121 rfl rfl ?_
        refine zs_getv (x := (V (160 + 8 * i + k) 419)) (n := 125) dX2_gather_122 gf_X2_159 (hR.kK hi hk) (hR.iv (lvK hi hk) (by decide) (by decide)) rfl ?_
        refine zs_iload (n := 127) dX2_gather_125 rfl rfl ?_
        refine zs_imul (n := 128) dX2_gather_127 rfl ?_
        refine zs_bipush (v := 100) (n := 130) dX2_gather_128 (by decide) rfl ?_
        refine zs_idiv (n := 131) dX2_gather_130 (by decide) rfl ?_
        refine zg_V (n := 134) (As := [.int (0 : Int32), .int (((V (160 + 8 * i + k) 419) * ((V 5 482) + Int32.ofInt 50)) / (100 : Int32))]) (ci := 13) (mc := 0) (ms := 0) dX2_gather_131 ok_X8_move ⟨ml_X2_178, im_X8_move, sl_X8_move⟩ rfl (hR.kK hi hk) rfl (Nat.le_of_ble_eq_true rfl) (by simp) (by omega) (Nat.le_refl _) (Nat.le_refl _) rfl rfl (c_move hR hP hi hk) ?_
        intro M hR9
        have hR := hR9.1
        have hP := hR9.2
        refine zs_return dX2_gather_134 rfl ?_
        refine hQ _ ?_
        unfold gGath
        first
        | (rw [if_pos (zb1.mp h85), if_pos (zb1.mp h109)]; exact ⟨hR, hP⟩)
        | (rw [if_pos (zb1.mp h85), if_neg (by rw [zb0.mp h109]; decide)]; exact ⟨hR, hP⟩)
        | (rw [if_neg (by rw [zb0.mp h85]; decide), if_pos (zb1.mp h109)]; exact ⟨hR, hP⟩)
        | (rw [if_neg (by rw [zb0.mp h85]; decide), if_neg (by rw [zb0.mp h109]; decide)]; exact ⟨hR, hP⟩)
    · refine zs_iload (n := 90) dX2_gather_88 rfl rfl ?_
      refine zs_iconst (v := 2) (n := 91) dX2_gather_90 (by decide) rfl ?_
      refine zs_idiv (n := 92) dX2_gather_91 (by decide) rfl ?_
      refine zs_istore (n := 94) dX2_gather_92 (by decide) rfl ?_
      refine zs_iinc (n := 97) dX2_gather_94 rfl rfl (by decide) rfl ?_
      refine zs_aload_n (n := 98) dX2_gather_97 rfl rfl ?_
      refine zs_dup (n := 99) dX2_gather_98 rfl rfl ?_
      refine zs_getv (x := (V (160 + 8 * i + k) 422)) (n := 102) dX2_gather_99 gf_X2_175 (hR.kK hi hk) (hR.iv (lvK hi hk) (by decide) (by decide)) rfl ?_
      refine zs_iconst (v := 1) (n := 103) dX2_gather_102 (by decide) rfl ?_
      refine zs_iadd (n := 104) dX2_gather_103 rfl ?_
      refine zw_i (r := (160 + 8 * i + k)) (n := 107) dX2_gather_104 pf_X2_gather_175 hR (lvK hi hk) (hR.kK hi hk) ⟨rfl, rfl⟩ (by decide) rfl ?_
      intro M hR hv
      have hR : zRp Z Λ (wV S (u2 V (160 + 8 * i + k) 422 ((V (160 + 8 * i + k) 422) + (1 : Int32)))) M := hR
      have hP : zPl Λ ((wV S (u2 V (160 + 8 * i + k) 422 ((V (160 + 8 * i + k) 422) + (1 : Int32)))), pl, nx) M := zPl.of (T := (wV S V, pl, nx)) hP hv rfl rfl (fun _ => rfl) (fun _ => rfl)
      refine zs_iload (n := 109) dX2_gather_107 rfl rfl ?_
      refine zs_if_eq (tgt := 118) (n := 112) dX2_gather_109 (by decide) rfl (fun h109 => ?_) (fun h109 => ?_)
      · refine zs_aload_n (n := 119) dX2_gather_118 rfl rfl ?_
        refine zs_iload (n := 121) dX2_gather_119 rfl rfl ?_
        refine zs_aload_n (n := 122) dX2_gather_121 rfl rfl ?_
        refine zs_getv (x := ((u2 V (160 + 8 * i + k) 422 ((V (160 + 8 * i + k) 422) + (1 : Int32))) (160 + 8 * i + k) 419)) (n := 125) dX2_gather_122 gf_X2_159 (hR.kK hi hk) (hR.iv (lvK hi hk) (by decide) (by decide)) rfl ?_
        refine zs_iload (n := 127) dX2_gather_125 rfl rfl ?_
        refine zs_imul (n := 128) dX2_gather_127 rfl ?_
        refine zs_bipush (v := 100) (n := 130) dX2_gather_128 (by decide) rfl ?_
        refine zs_idiv (n := 131) dX2_gather_130 (by decide) rfl ?_
        refine zg_V (n := 134) (As := [.int ((((fPass (wV S V) i m) * (((10 : Int32) * (V (140 + (sT (wV S V) i k)) 163)) + (if (40 : Int32) < (V (160 + 8 * i + k) 419) then (40 : Int32) else (V (160 + 8 * i + k) 419)))) / (100 : Int32)) / (2 : Int32)), .int ((((u2 V (160 + 8 * i + k) 422 ((V (160 + 8 * i + k) 422) + (1 : Int32))) (160 + 8 * i + k) 419) * ((V 5 482) + Int32.ofInt 10)) / (100 : Int32))]) (ci := 13) (mc := 0) (ms := 0) dX2_gather_131 ok_X8_move ⟨ml_X2_178, im_X8_move, sl_X8_move⟩ rfl (hR.kK hi hk) rfl (Nat.le_of_ble_eq_true rfl) (by simp) (by omega) (Nat.le_refl _) (Nat.le_refl _) rfl rfl (c_move hR hP hi hk) ?_
        intro M hR9
        have hR := hR9.1
        have hP := hR9.2
        refine zs_return dX2_gather_134 rfl ?_
        refine hQ _ ?_
        unfold gGath
        first
        | (rw [if_pos (zb1.mp h85), if_pos (zb1.mp h109)]; exact ⟨hR, hP⟩)
        | (rw [if_pos (zb1.mp h85), if_neg (by rw [zb0.mp h109]; decide)]; exact ⟨hR, hP⟩)
        | (rw [if_neg (by rw [zb0.mp h85]; decide), if_pos (zb1.mp h109)]; exact ⟨hR, hP⟩)
        | (rw [if_neg (by rw [zb0.mp h85]; decide), if_neg (by rw [zb0.mp h109]; decide)]; exact ⟨hR, hP⟩)
      · refine zs_iconst (v := 0) (n := 113) dX2_gather_112 (by decide) rfl ?_
        refine zs_istore (n := 115) dX2_gather_113 (by decide) rfl ?_
        refine zs_iinc (n := 118) dX2_gather_115 rfl rfl (by decide) rfl ?_
        refine zs_aload_n (n := 119) dX2_gather_118 rfl rfl ?_
        refine zs_iload (n := 121) dX2_gather_119 rfl rfl ?_
        refine zs_aload_n (n := 122) dX2_gather_121 rfl rfl ?_
        refine zs_getv (x := ((u2 V (160 + 8 * i + k) 422 ((V (160 + 8 * i + k) 422) + (1 : Int32))) (160 + 8 * i + k) 419)) (n := 125) dX2_gather_122 gf_X2_159 (hR.kK hi hk) (hR.iv (lvK hi hk) (by decide) (by decide)) rfl ?_
        refine zs_iload (n := 127) dX2_gather_125 rfl rfl ?_
        refine zs_imul (n := 128) dX2_gather_127 rfl ?_
        refine zs_bipush (v := 100) (n := 130) dX2_gather_128 (by decide) rfl ?_
        refine zs_idiv (n := 131) dX2_gather_130 (by decide) rfl ?_
        refine zg_V (n := 134) (As := [.int (0 : Int32), .int ((((u2 V (160 + 8 * i + k) 422 ((V (160 + 8 * i + k) 422) + (1 : Int32))) (160 + 8 * i + k) 419) * (((V 5 482) + Int32.ofInt 10) + Int32.ofInt 50)) / (100 : Int32))]) (ci := 13) (mc := 0) (ms := 0) dX2_gather_131 ok_X8_move ⟨ml_X2_178, im_X8_move, sl_X8_move⟩ rfl (hR.kK hi hk) rfl (Nat.le_of_ble_eq_true rfl) (by simp) (by omega) (Nat.le_refl _) (Nat.le_refl _) rfl rfl (c_move hR hP hi hk) ?_
        intro M hR9
        have hR := hR9.1
        have hP := hR9.2
        refine zs_return dX2_gather_134 rfl ?_
        refine hQ _ ?_
        unfold gGath
        first
        | (rw [if_pos (zb1.mp h85), if_pos (zb1.mp h109)]; exact ⟨hR, hP⟩)
        | (rw [if_pos (zb1.mp h85), if_neg (by rw [zb0.mp h109]; decide)]; exact ⟨hR, hP⟩)
        | (rw [if_neg (by rw [zb0.mp h85]; decide), if_pos (zb1.mp h109)]; exact ⟨hR, hP⟩)
        | (rw [if_neg (by rw [zb0.mp h85]; decide), if_neg (by rw [zb0.mp h109]; decide)]; exact ⟨hR, hP⟩)
  · refine zs_aload_n (n := 12) dX2_gather_11 rfl rfl ?_
    refine zs_getv (x := (V (100 + i) 354)) (n := 15) dX2_gather_12 gf_X2_149 (hR.kP hi) (hR.iv (lvP hi) (by decide) (by decide)) rfl ?_
    refine zs_if_ne (tgt := 22) (n := 18) dX2_gather_15 (by decide) rfl (fun h15 => ?_) (fun h15 => ?_)
    · refine zs_iconst (v := 0) (n := 23) dX2_gather_22 (by decide) rfl ?_
      refine zX.top (show (0 : Int32) = zb (gWet V i m) from by unfold gWet; first | (rw [zb0.mp h8]; rfl) | (rw [zb1.mp h8, decide_eq_true h15]; rfl) | (rw [zb1.mp h8, decide_eq_false h15]; rfl)) ?_
      refine zs_istore (n := 25) dX2_gather_23 (by decide) rfl ?_
      refine zs_aload_n (n := 26) dX2_gather_25 rfl rfl ?_
      refine zs_getr (b := (Λ 2)) (n := 29) dX2_gather_26 gf_X2_9 (hR.kd (lvC h3 (by omega))) (hR.pt (lvC h3 (by omega)) rfl (by decide)) rfl ?_
      refine zs_aload_n (n := 30) dX2_gather_29 rfl rfl ?_
      refine zs_getr (b := (Λ (140 + (sT (wV S V) i k)))) (n := 33) dX2_gather_30 gf_X2_86 (hR.kK hi hk) (hR.act hi hk) rfl ?_
      refine zs_aload_n (n := 34) dX2_gather_33 rfl rfl ?_
      refine zc_V (n := 37) (As := [.ref (Λ (140 + (sT (wV S V) i k))), .ref (Λ (100 + i))]) (ci := 12) (mc := 0) (ms := 0) dX2_gather_34 ok_X7_isDrowned ⟨ml_X2_152, im_X7_isDrowned, sl_X7_isDrowned⟩ rfl (hR.kd (lvC h3 (by omega))) rfl (Nat.le_of_ble_eq_true rfl) (by simp) (by omega) (Nat.le_refl _) (Nat.le_refl _) rfl rfl (c_isDrowned hR hP h3 (hR.actb hi hk) hi) ?_
      refine zs_istore (n := 39) dX2_gather_37 (by decide) rfl ?_
      refine zs_bipush (v := 10) (n := 41) dX2_gather_39 (by decide) rfl ?_
      refine zs_aload_n (n := 42) dX2_gather_41 rfl rfl ?_
      refine zs_getr (b := (Λ (140 + (sT (wV S V) i k)))) (n := 45) dX2_gather_42 gf_X2_86 (hR.kK hi hk) (hR.act hi hk) rfl ?_
      refine zs_getv (x := (V (140 + (sT (wV S V) i k)) 163)) (n := 48) dX2_gather_45 gf_X2_156 (hR.kA (hR.actb hi hk)) (hR.iv (lvA (hR.actb hi hk)) (by decide) (by decide)) rfl ?_
      refine zs_imul (n := 49) dX2_gather_48 rfl ?_
      refine zs_aload_n (n := 50) dX2_gather_49 rfl rfl ?_
      refine zs_getv (x := (V (160 + 8 * i + k) 419)) (n := 53) dX2_gather_50 gf_X2_159 (hR.kK hi hk) (hR.iv (lvK hi hk) (by decide) (by decide)) rfl ?_
      refine zs_bipush (v := 40) (n := 55) dX2_gather_53 (by decide) rfl ?_
      refine zs_min (n := 58) dX2_gather_55 ⟨⟨tw_5 _ (List.mem_of_getElem? (i := 133) (by decide +kernel)), by decide +kernel⟩, w_i1, w_m2, w_i3⟩ (by simp) rfl ?_
      refine zs_iadd (n := 59) dX2_gather_58 rfl ?_
      refine zs_istore (n := 61) dX2_gather_59 (by decide) rfl ?_
      refine zs_aload_n (n := 62) dX2_gather_61 rfl rfl ?_
      refine zs_iload_n (n := 63) dX2_gather_62 rfl rfl ?_
      refine zc_V (n := 66) (As := [.int (nI m)]) (ci := 11) (mc := 0) (ms := 0) dX2_gather_63 ok_X6_passersIn ⟨ml_X2_168, im_X6_passersIn, sl_X6_passersIn⟩ rfl (hR.kP hi) rfl (Nat.le_of_ble_eq_true rfl) (by simp) (by omega) (Nat.le_refl _) (Nat.le_refl _) rfl rfl (c_passersIn hR hi (by omega) (by omega)) ?_
      refine zs_iload (n := 68) dX2_gather_66 rfl rfl ?_
      refine zs_imul (n := 69) dX2_gather_68 rfl ?_
      refine zs_bipush (v := 100) (n := 71) dX2_gather_69 (by decide) rfl ?_
      refine zs_idiv (n := 72) dX2_gather_71 (by decide) rfl ?_
      refine zs_istore (n := 74) dX2_gather_72 (by decide) rfl ?_
      refine zs_aload_n (n := 75) dX2_gather_74 rfl rfl ?_
      refine zs_getr (b := (Λ 5)) (n := 78) dX2_gather_75 gf_X2_15 (hR.kd (lvC h3 (by omega))) (hR.pt (lvC h3 (by omega)) rfl (by decide)) rfl ?_
      refine zs_getv (x := (V 5 482)) (n := 81) dX2_gather_78 gf_X2_172 (hR.kd (lvC h3 (by omega))) (hR.iv (lvC h3 (by omega)) (by decide) (by decide)) rfl ?_
      refine zs_istore (n := 83) dX2_gather_81 (by decide) rfl ?_
      refine zs_iload (n := 85) dX2_gather_83 rfl rfl ?_
      refine zs_if_eq (tgt := 107) (n := 88) dX2_gather_85 (by decide) rfl (fun h85 => ?_) (fun h85 => ?_)
      · refine zs_iload (n := 109) dX2_gather_107 rfl rfl ?_
        refine zs_if_eq (tgt := 118) (n := 112) dX2_gather_109 (by decide) rfl (fun h109 => ?_) (fun h109 => ?_)
        · refine zs_aload_n (n := 119) dX2_gather_118 rfl rfl ?_
          refine zs_iload (n := 121) dX2_gather_119 rfl rfl ?_
          refine zs_aload_n (n := 122) dX2_gather_121 rfl rfl ?_
          refine zs_getv (x := (V (160 + 8 * i + k) 419)) (n := 125) dX2_gather_122 gf_X2_159 (hR.kK hi hk) (hR.iv (lvK hi hk) (by decide) (by decide)) rfl ?_
          refine zs_iload (n := 127) dX2_gather_125 rfl rfl ?_
          refine zs_imul (n := 128) dX2_gather_127 rfl ?_
          refine zs_bipush (v := 100) (n := 130) dX2_gather_128 (by decide) rfl ?_
          refine zs_idiv (n := 131) dX2_gather_130 (by decide) rfl ?_
          refine zg_V (n := 134) (As := [.int (((fPass (wV S V) i m) * (((10 : Int32) * (V (140 + (sT (wV S V) i k)) 163)) + (if (40 : Int32) < (V (160 + 8 * i + k) 419) then (40 : Int32) else (V (160 + 8 * i + k) 419)))) / (100 : Int32)), .int (((V (160 + 8 * i + k) 419) * (V 5 482)) / (100 : Int32))]) (ci := 13) (mc := 0) (ms := 0) dX2_gather_131 ok_X8_move ⟨ml_X2_178, im_X8_move, sl_X8_move⟩ rfl (hR.kK hi hk) rfl (Nat.le_of_ble_eq_true rfl) (by simp) (by omega) (Nat.le_refl _) (Nat.le_refl _) rfl rfl (c_move hR hP hi hk) ?_
          intro M hR9
          have hR := hR9.1
          have hP := hR9.2
          refine zs_return dX2_gather_134 rfl ?_
          refine hQ _ ?_
          unfold gGath
          first
          | (rw [if_pos (zb1.mp h85), if_pos (zb1.mp h109)]; exact ⟨hR, hP⟩)
          | (rw [if_pos (zb1.mp h85), if_neg (by rw [zb0.mp h109]; decide)]; exact ⟨hR, hP⟩)
          | (rw [if_neg (by rw [zb0.mp h85]; decide), if_pos (zb1.mp h109)]; exact ⟨hR, hP⟩)
          | (rw [if_neg (by rw [zb0.mp h85]; decide), if_neg (by rw [zb0.mp h109]; decide)]; exact ⟨hR, hP⟩)
        · refine zs_iconst (v := 0) (n := 113) dX2_gather_112 (by decide) rfl ?_
          refine zs_istore (n := 115) dX2_gather_113 (by decide) rfl ?_
          refine zs_iinc (n := 118) dX2_gather_115 rfl rfl (by decide) rfl ?_
          refine zs_aload_n (n := 119) dX2_gather_118 rfl rfl ?_
          refine zs_iload (n := 121) dX2_gather_119 rfl rfl ?_
          refine zs_aload_n (n := 122) dX2_gather_121 rfl rfl ?_
          refine zs_getv (x := (V (160 + 8 * i + k) 419)) (n := 125) dX2_gather_122 gf_X2_159 (hR.kK hi hk) (hR.iv (lvK hi hk) (by decide) (by decide)) rfl ?_
          refine zs_iload (n := 127) dX2_gather_125 rfl rfl ?_
          refine zs_imul (n := 128) dX2_gather_127 rfl ?_
          refine zs_bipush (v := 100) (n := 130) dX2_gather_128 (by decide) rfl ?_
          refine zs_idiv (n := 131) dX2_gather_130 (by decide) rfl ?_
          refine zg_V (n := 134) (As := [.int (0 : Int32), .int (((V (160 + 8 * i + k) 419) * ((V 5 482) + Int32.ofInt 50)) / (100 : Int32))]) (ci := 13) (mc := 0) (ms := 0) dX2_gather_131 ok_X8_move ⟨ml_X2_178, im_X8_move, sl_X8_move⟩ rfl (hR.kK hi hk) rfl (Nat.le_of_ble_eq_true rfl) (by simp) (by omega) (Nat.le_refl _) (Nat.le_refl _) rfl rfl (c_move hR hP hi hk) ?_
          intro M hR9
          have hR := hR9.1
          have hP := hR9.2
          refine zs_return dX2_gather_134 rfl ?_
          refine hQ _ ?_
          unfold gGath
          first
          | (rw [if_pos (zb1.mp h85), if_pos (zb1.mp h109)]; exact ⟨hR, hP⟩)
          | (rw [if_pos (zb1.mp h85), if_neg (by rw [zb0.mp h109]; decide)]; exact ⟨hR, hP⟩)
          | (rw [if_neg (by rw [zb0.mp h85]; decide), if_pos (zb1.mp h109)]; exact ⟨hR, hP⟩)
          | (rw [if_neg (by rw [zb0.mp h85]; decide), if_neg (by rw [zb0.mp h109]; decide)]; exact ⟨hR, hP⟩)
      · refine zs_iload (n := 90) dX2_gather_88 rfl rfl ?_
        refine zs_iconst (v := 2) (n := 91) dX2_gather_90 (by decide) rfl ?_
        refine zs_idiv (n := 92) dX2_gather_91 (by decide) rfl ?_
        refine zs_istore (n := 94) dX2_gather_92 (by decide) rfl ?_
        refine zs_iinc (n := 97) dX2_gather_94 rfl rfl (by decide) rfl ?_
        refine zs_aload_n (n := 98) dX2_gather_97 rfl rfl ?_
        refine zs_dup (n := 99) dX2_gather_98 rfl rfl ?_
        refine zs_getv (x := (V (160 + 8 * i + k) 422)) (n := 102) dX2_gather_99 gf_X2_175 (hR.kK hi hk) (hR.iv (lvK hi hk) (by decide) (by decide)) rfl ?_
        refine zs_iconst (v := 1) (n := 103) dX2_gather_102 (by decide) rfl ?_
        refine zs_iadd (n := 104) dX2_gather_103 rfl ?_
        refine zw_i (r := (160 + 8 * i + k)) (n := 107) dX2_gather_104 pf_X2_gather_175 hR (lvK hi hk) (hR.kK hi hk) ⟨rfl, rfl⟩ (by decide) rfl ?_
        intro M hR hv
        have hR : zRp Z Λ (wV S (u2 V (160 + 8 * i + k) 422 ((V (160 + 8 * i + k) 422) + (1 : Int32)))) M := hR
        have hP : zPl Λ ((wV S (u2 V (160 + 8 * i + k) 422 ((V (160 + 8 * i + k) 422) + (1 : Int32)))), pl, nx) M := zPl.of (T := (wV S V, pl, nx)) hP hv rfl rfl (fun _ => rfl) (fun _ => rfl)
        refine zs_iload (n := 109) dX2_gather_107 rfl rfl ?_
        refine zs_if_eq (tgt := 118) (n := 112) dX2_gather_109 (by decide) rfl (fun h109 => ?_) (fun h109 => ?_)
        · refine zs_aload_n (n := 119) dX2_gather_118 rfl rfl ?_
          refine zs_iload (n := 121) dX2_gather_119 rfl rfl ?_
          refine zs_aload_n (n := 122) dX2_gather_121 rfl rfl ?_
          refine zs_getv (x := ((u2 V (160 + 8 * i + k) 422 ((V (160 + 8 * i + k) 422) + (1 : Int32))) (160 + 8 * i + k) 419)) (n := 125) dX2_gather_122 gf_X2_159 (hR.kK hi hk) (hR.iv (lvK hi hk) (by decide) (by decide)) rfl ?_
          refine zs_iload (n := 127) dX2_gather_125 rfl rfl ?_
          refine zs_imul (n := 128) dX2_gather_127 rfl ?_
          refine zs_bipush (v := 100) (n := 130) dX2_gather_128 (by decide) rfl ?_
          refine zs_idiv (n := 131) dX2_gather_130 (by decide) rfl ?_
          refine zg_V (n := 134) (As := [.int ((((fPass (wV S V) i m) * (((10 : Int32) * (V (140 + (sT (wV S V) i k)) 163)) + (if (40 : Int32) < (V (160 + 8 * i + k) 419) then (40 : Int32) else (V (160 + 8 * i + k) 419)))) / (100 : Int32)) / (2 : Int32)), .int ((((u2 V (160 + 8 * i + k) 422 ((V (160 + 8 * i + k) 422) + (1 : Int32))) (160 + 8 * i + k) 419) * ((V 5 482) + Int32.ofInt 10)) / (100 : Int32))]) (ci := 13) (mc := 0) (ms := 0) dX2_gather_131 ok_X8_move ⟨ml_X2_178, im_X8_move, sl_X8_move⟩ rfl (hR.kK hi hk) rfl (Nat.le_of_ble_eq_true rfl) (by simp) (by omega) (Nat.le_refl _) (Nat.le_refl _) rfl rfl (c_move hR hP hi hk) ?_
          intro M hR9
          have hR := hR9.1
          have hP := hR9.2
          refine zs_return dX2_gather_134 rfl ?_
          refine hQ _ ?_
          unfold gGath
          first
          | (rw [if_pos (zb1.mp h85), if_pos (zb1.mp h109)]; exact ⟨hR, hP⟩)
          | (rw [if_pos (zb1.mp h85), if_neg (by rw [zb0.mp h109]; decide)]; exact ⟨hR, hP⟩)
          | (rw [if_neg (by rw [zb0.mp h85]; decide), if_pos (zb1.mp h109)]; exact ⟨hR, hP⟩)
          | (rw [if_neg (by rw [zb0.mp h85]; decide), if_neg (by rw [zb0.mp h109]; decide)]; exact ⟨hR, hP⟩)
        · refine zs_iconst (v := 0) (n := 113) dX2_gather_112 (by decide) rfl ?_
          refine zs_istore (n := 115) dX2_gather_113 (by decide) rfl ?_
          refine zs_iinc (n := 118) dX2_gather_115 rfl rfl (by decide) rfl ?_
          refine zs_aload_n (n := 119) dX2_gather_118 rfl rfl ?_
          refine zs_iload (n := 121) dX2_gather_119 rfl rfl ?_
          refine zs_aload_n (n := 122) dX2_gather_121 rfl rfl ?_
          refine zs_getv (x := ((u2 V (160 + 8 * i + k) 422 ((V (160 + 8 * i + k) 422) + (1 : Int32))) (160 + 8 * i + k) 419)) (n := 125) dX2_gather_122 gf_X2_159 (hR.kK hi hk) (hR.iv (lvK hi hk) (by decide) (by decide)) rfl ?_
          refine zs_iload (n := 127) dX2_gather_125 rfl rfl ?_
          refine zs_imul (n := 128) dX2_gather_127 rfl ?_
          refine zs_bipush (v := 100) (n := 130) dX2_gather_128 (by decide) rfl ?_
          refine zs_idiv (n := 131) dX2_gather_130 (by decide) rfl ?_
          refine zg_V (n := 134) (As := [.int (0 : Int32), .int ((((u2 V (160 + 8 * i + k) 422 ((V (160 + 8 * i + k) 422) + (1 : Int32))) (160 + 8 * i + k) 419) * (((V 5 482) + Int32.ofInt 10) + Int32.ofInt 50)) / (100 : Int32))]) (ci := 13) (mc := 0) (ms := 0) dX2_gather_131 ok_X8_move ⟨ml_X2_178, im_X8_move, sl_X8_move⟩ rfl (hR.kK hi hk) rfl (Nat.le_of_ble_eq_true rfl) (by simp) (by omega) (Nat.le_refl _) (Nat.le_refl _) rfl rfl (c_move hR hP hi hk) ?_
          intro M hR9
          have hR := hR9.1
          have hP := hR9.2
          refine zs_return dX2_gather_134 rfl ?_
          refine hQ _ ?_
          unfold gGath
          first
          | (rw [if_pos (zb1.mp h85), if_pos (zb1.mp h109)]; exact ⟨hR, hP⟩)
          | (rw [if_pos (zb1.mp h85), if_neg (by rw [zb0.mp h109]; decide)]; exact ⟨hR, hP⟩)
          | (rw [if_neg (by rw [zb0.mp h85]; decide), if_pos (zb1.mp h109)]; exact ⟨hR, hP⟩)
          | (rw [if_neg (by rw [zb0.mp h85]; decide), if_neg (by rw [zb0.mp h109]; decide)]; exact ⟨hR, hP⟩)
    · refine zs_iconst (v := 1) (n := 19) dX2_gather_18 (by decide) rfl ?_
      refine zs_goto (tgt := 23) dX2_gather_19 (by decide) ?_
      refine zX.top (show (1 : Int32) = zb (gWet V i m) from by unfold gWet; first | (rw [zb0.mp h8]; rfl) | (rw [zb1.mp h8, decide_eq_true h15]; rfl) | (rw [zb1.mp h8, decide_eq_false h15]; rfl)) ?_
      refine zs_istore (n := 25) dX2_gather_23 (by decide) rfl ?_
      refine zs_aload_n (n := 26) dX2_gather_25 rfl rfl ?_
      refine zs_getr (b := (Λ 2)) (n := 29) dX2_gather_26 gf_X2_9 (hR.kd (lvC h3 (by omega))) (hR.pt (lvC h3 (by omega)) rfl (by decide)) rfl ?_
      refine zs_aload_n (n := 30) dX2_gather_29 rfl rfl ?_
      refine zs_getr (b := (Λ (140 + (sT (wV S V) i k)))) (n := 33) dX2_gather_30 gf_X2_86 (hR.kK hi hk) (hR.act hi hk) rfl ?_
      refine zs_aload_n (n := 34) dX2_gather_33 rfl rfl ?_
      refine zc_V (n := 37) (As := [.ref (Λ (140 + (sT (wV S V) i k))), .ref (Λ (100 + i))]) (ci := 12) (mc := 0) (ms := 0) dX2_gather_34 ok_X7_isDrowned ⟨ml_X2_152, im_X7_isDrowned, sl_X7_isDrowned⟩ rfl (hR.kd (lvC h3 (by omega))) rfl (Nat.le_of_ble_eq_true rfl) (by simp) (by omega) (Nat.le_refl _) (Nat.le_refl _) rfl rfl (c_isDrowned hR hP h3 (hR.actb hi hk) hi) ?_
      refine zs_istore (n := 39) dX2_gather_37 (by decide) rfl ?_
      refine zs_bipush (v := 10) (n := 41) dX2_gather_39 (by decide) rfl ?_
      refine zs_aload_n (n := 42) dX2_gather_41 rfl rfl ?_
      refine zs_getr (b := (Λ (140 + (sT (wV S V) i k)))) (n := 45) dX2_gather_42 gf_X2_86 (hR.kK hi hk) (hR.act hi hk) rfl ?_
      refine zs_getv (x := (V (140 + (sT (wV S V) i k)) 163)) (n := 48) dX2_gather_45 gf_X2_156 (hR.kA (hR.actb hi hk)) (hR.iv (lvA (hR.actb hi hk)) (by decide) (by decide)) rfl ?_
      refine zs_imul (n := 49) dX2_gather_48 rfl ?_
      refine zs_aload_n (n := 50) dX2_gather_49 rfl rfl ?_
      refine zs_getv (x := (V (160 + 8 * i + k) 419)) (n := 53) dX2_gather_50 gf_X2_159 (hR.kK hi hk) (hR.iv (lvK hi hk) (by decide) (by decide)) rfl ?_
      refine zs_bipush (v := 40) (n := 55) dX2_gather_53 (by decide) rfl ?_
      refine zs_min (n := 58) dX2_gather_55 ⟨⟨tw_5 _ (List.mem_of_getElem? (i := 133) (by decide +kernel)), by decide +kernel⟩, w_i1, w_m2, w_i3⟩ (by simp) rfl ?_
      refine zs_iadd (n := 59) dX2_gather_58 rfl ?_
      refine zs_istore (n := 61) dX2_gather_59 (by decide) rfl ?_
      refine zs_aload_n (n := 62) dX2_gather_61 rfl rfl ?_
      refine zs_iload_n (n := 63) dX2_gather_62 rfl rfl ?_
      refine zc_V (n := 66) (As := [.int (nI m)]) (ci := 11) (mc := 0) (ms := 0) dX2_gather_63 ok_X6_passersIn ⟨ml_X2_168, im_X6_passersIn, sl_X6_passersIn⟩ rfl (hR.kP hi) rfl (Nat.le_of_ble_eq_true rfl) (by simp) (by omega) (Nat.le_refl _) (Nat.le_refl _) rfl rfl (c_passersIn hR hi (by omega) (by omega)) ?_
      refine zs_iload (n := 68) dX2_gather_66 rfl rfl ?_
      refine zs_imul (n := 69) dX2_gather_68 rfl ?_
      refine zs_bipush (v := 100) (n := 71) dX2_gather_69 (by decide) rfl ?_
      refine zs_idiv (n := 72) dX2_gather_71 (by decide) rfl ?_
      refine zs_istore (n := 74) dX2_gather_72 (by decide) rfl ?_
      refine zs_aload_n (n := 75) dX2_gather_74 rfl rfl ?_
      refine zs_getr (b := (Λ 5)) (n := 78) dX2_gather_75 gf_X2_15 (hR.kd (lvC h3 (by omega))) (hR.pt (lvC h3 (by omega)) rfl (by decide)) rfl ?_
      refine zs_getv (x := (V 5 482)) (n := 81) dX2_gather_78 gf_X2_172 (hR.kd (lvC h3 (by omega))) (hR.iv (lvC h3 (by omega)) (by decide) (by decide)) rfl ?_
      refine zs_istore (n := 83) dX2_gather_81 (by decide) rfl ?_
      refine zs_iload (n := 85) dX2_gather_83 rfl rfl ?_
      refine zs_if_eq (tgt := 107) (n := 88) dX2_gather_85 (by decide) rfl (fun h85 => ?_) (fun h85 => ?_)
      · refine zs_iload (n := 109) dX2_gather_107 rfl rfl ?_
        refine zs_if_eq (tgt := 118) (n := 112) dX2_gather_109 (by decide) rfl (fun h109 => ?_) (fun h109 => ?_)
        · refine zs_aload_n (n := 119) dX2_gather_118 rfl rfl ?_
          refine zs_iload (n := 121) dX2_gather_119 rfl rfl ?_
          refine zs_aload_n (n := 122) dX2_gather_121 rfl rfl ?_
          refine zs_getv (x := (V (160 + 8 * i + k) 419)) (n := 125) dX2_gather_122 gf_X2_159 (hR.kK hi hk) (hR.iv (lvK hi hk) (by decide) (by decide)) rfl ?_
          refine zs_iload (n := 127) dX2_gather_125 rfl rfl ?_
          refine zs_imul (n := 128) dX2_gather_127 rfl ?_
          refine zs_bipush (v := 100) (n := 130) dX2_gather_128 (by decide) rfl ?_
          refine zs_idiv (n := 131) dX2_gather_130 (by decide) rfl ?_
          refine zg_V (n := 134) (As := [.int (((fPass (wV S V) i m) * (((10 : Int32) * (V (140 + (sT (wV S V) i k)) 163)) + (if (40 : Int32) < (V (160 + 8 * i + k) 419) then (40 : Int32) else (V (160 + 8 * i + k) 419)))) / (100 : Int32)), .int (((V (160 + 8 * i + k) 419) * (V 5 482)) / (100 : Int32))]) (ci := 13) (mc := 0) (ms := 0) dX2_gather_131 ok_X8_move ⟨ml_X2_178, im_X8_move, sl_X8_move⟩ rfl (hR.kK hi hk) rfl (Nat.le_of_ble_eq_true rfl) (by simp) (by omega) (Nat.le_refl _) (Nat.le_refl _) rfl rfl (c_move hR hP hi hk) ?_
          intro M hR9
          have hR := hR9.1
          have hP := hR9.2
          refine zs_return dX2_gather_134 rfl ?_
          refine hQ _ ?_
          unfold gGath
          first
          | (rw [if_pos (zb1.mp h85), if_pos (zb1.mp h109)]; exact ⟨hR, hP⟩)
          | (rw [if_pos (zb1.mp h85), if_neg (by rw [zb0.mp h109]; decide)]; exact ⟨hR, hP⟩)
          | (rw [if_neg (by rw [zb0.mp h85]; decide), if_pos (zb1.mp h109)]; exact ⟨hR, hP⟩)
          | (rw [if_neg (by rw [zb0.mp h85]; decide), if_neg (by rw [zb0.mp h109]; decide)]; exact ⟨hR, hP⟩)
        · refine zs_iconst (v := 0) (n := 113) dX2_gather_112 (by decide) rfl ?_
          refine zs_istore (n := 115) dX2_gather_113 (by decide) rfl ?_
          refine zs_iinc (n := 118) dX2_gather_115 rfl rfl (by decide) rfl ?_
          refine zs_aload_n (n := 119) dX2_gather_118 rfl rfl ?_
          refine zs_iload (n := 121) dX2_gather_119 rfl rfl ?_
          refine zs_aload_n (n := 122) dX2_gather_121 rfl rfl ?_
          refine zs_getv (x := (V (160 + 8 * i + k) 419)) (n := 125) dX2_gather_122 gf_X2_159 (hR.kK hi hk) (hR.iv (lvK hi hk) (by decide) (by decide)) rfl ?_
          refine zs_iload (n := 127) dX2_gather_125 rfl rfl ?_
          refine zs_imul (n := 128) dX2_gather_127 rfl ?_
          refine zs_bipush (v := 100) (n := 130) dX2_gather_128 (by decide) rfl ?_
          refine zs_idiv (n := 131) dX2_gather_130 (by decide) rfl ?_
          refine zg_V (n := 134) (As := [.int (0 : Int32), .int (((V (160 + 8 * i + k) 419) * ((V 5 482) + Int32.ofInt 50)) / (100 : Int32))]) (ci := 13) (mc := 0) (ms := 0) dX2_gather_131 ok_X8_move ⟨ml_X2_178, im_X8_move, sl_X8_move⟩ rfl (hR.kK hi hk) rfl (Nat.le_of_ble_eq_true rfl) (by simp) (by omega) (Nat.le_refl _) (Nat.le_refl _) rfl rfl (c_move hR hP hi hk) ?_
          intro M hR9
          have hR := hR9.1
          have hP := hR9.2
          refine zs_return dX2_gather_134 rfl ?_
          refine hQ _ ?_
          unfold gGath
          first
          | (rw [if_pos (zb1.mp h85), if_pos (zb1.mp h109)]; exact ⟨hR, hP⟩)
          | (rw [if_pos (zb1.mp h85), if_neg (by rw [zb0.mp h109]; decide)]; exact ⟨hR, hP⟩)
          | (rw [if_neg (by rw [zb0.mp h85]; decide), if_pos (zb1.mp h109)]; exact ⟨hR, hP⟩)
          | (rw [if_neg (by rw [zb0.mp h85]; decide), if_neg (by rw [zb0.mp h109]; decide)]; exact ⟨hR, hP⟩)
      · refine zs_iload (n := 90) dX2_gather_88 rfl rfl ?_
        refine zs_iconst (v := 2) (n := 91) dX2_gather_90 (by decide) rfl ?_
        refine zs_idiv (n := 92) dX2_gather_91 (by decide) rfl ?_
        refine zs_istore (n := 94) dX2_gather_92 (by decide) rfl ?_
        refine zs_iinc (n := 97) dX2_gather_94 rfl rfl (by decide) rfl ?_
        refine zs_aload_n (n := 98) dX2_gather_97 rfl rfl ?_
        refine zs_dup (n := 99) dX2_gather_98 rfl rfl ?_
        refine zs_getv (x := (V (160 + 8 * i + k) 422)) (n := 102) dX2_gather_99 gf_X2_175 (hR.kK hi hk) (hR.iv (lvK hi hk) (by decide) (by decide)) rfl ?_
        refine zs_iconst (v := 1) (n := 103) dX2_gather_102 (by decide) rfl ?_
        refine zs_iadd (n := 104) dX2_gather_103 rfl ?_
        refine zw_i (r := (160 + 8 * i + k)) (n := 107) dX2_gather_104 pf_X2_gather_175 hR (lvK hi hk) (hR.kK hi hk) ⟨rfl, rfl⟩ (by decide) rfl ?_
        intro M hR hv
        have hR : zRp Z Λ (wV S (u2 V (160 + 8 * i + k) 422 ((V (160 + 8 * i + k) 422) + (1 : Int32)))) M := hR
        have hP : zPl Λ ((wV S (u2 V (160 + 8 * i + k) 422 ((V (160 + 8 * i + k) 422) + (1 : Int32)))), pl, nx) M := zPl.of (T := (wV S V, pl, nx)) hP hv rfl rfl (fun _ => rfl) (fun _ => rfl)
        refine zs_iload (n := 109) dX2_gather_107 rfl rfl ?_
        refine zs_if_eq (tgt := 118) (n := 112) dX2_gather_109 (by decide) rfl (fun h109 => ?_) (fun h109 => ?_)
        · refine zs_aload_n (n := 119) dX2_gather_118 rfl rfl ?_
          refine zs_iload (n := 121) dX2_gather_119 rfl rfl ?_
          refine zs_aload_n (n := 122) dX2_gather_121 rfl rfl ?_
          refine zs_getv (x := ((u2 V (160 + 8 * i + k) 422 ((V (160 + 8 * i + k) 422) + (1 : Int32))) (160 + 8 * i + k) 419)) (n := 125) dX2_gather_122 gf_X2_159 (hR.kK hi hk) (hR.iv (lvK hi hk) (by decide) (by decide)) rfl ?_
          refine zs_iload (n := 127) dX2_gather_125 rfl rfl ?_
          refine zs_imul (n := 128) dX2_gather_127 rfl ?_
          refine zs_bipush (v := 100) (n := 130) dX2_gather_128 (by decide) rfl ?_
          refine zs_idiv (n := 131) dX2_gather_130 (by decide) rfl ?_
          refine zg_V (n := 134) (As := [.int ((((fPass (wV S V) i m) * (((10 : Int32) * (V (140 + (sT (wV S V) i k)) 163)) + (if (40 : Int32) < (V (160 + 8 * i + k) 419) then (40 : Int32) else (V (160 + 8 * i + k) 419)))) / (100 : Int32)) / (2 : Int32)), .int ((((u2 V (160 + 8 * i + k) 422 ((V (160 + 8 * i + k) 422) + (1 : Int32))) (160 + 8 * i + k) 419) * ((V 5 482) + Int32.ofInt 10)) / (100 : Int32))]) (ci := 13) (mc := 0) (ms := 0) dX2_gather_131 ok_X8_move ⟨ml_X2_178, im_X8_move, sl_X8_move⟩ rfl (hR.kK hi hk) rfl (Nat.le_of_ble_eq_true rfl) (by simp) (by omega) (Nat.le_refl _) (Nat.le_refl _) rfl rfl (c_move hR hP hi hk) ?_
          intro M hR9
          have hR := hR9.1
          have hP := hR9.2
          refine zs_return dX2_gather_134 rfl ?_
          refine hQ _ ?_
          unfold gGath
          first
          | (rw [if_pos (zb1.mp h85), if_pos (zb1.mp h109)]; exact ⟨hR, hP⟩)
          | (rw [if_pos (zb1.mp h85), if_neg (by rw [zb0.mp h109]; decide)]; exact ⟨hR, hP⟩)
          | (rw [if_neg (by rw [zb0.mp h85]; decide), if_pos (zb1.mp h109)]; exact ⟨hR, hP⟩)
          | (rw [if_neg (by rw [zb0.mp h85]; decide), if_neg (by rw [zb0.mp h109]; decide)]; exact ⟨hR, hP⟩)
        · refine zs_iconst (v := 0) (n := 113) dX2_gather_112 (by decide) rfl ?_
          refine zs_istore (n := 115) dX2_gather_113 (by decide) rfl ?_
          refine zs_iinc (n := 118) dX2_gather_115 rfl rfl (by decide) rfl ?_
          refine zs_aload_n (n := 119) dX2_gather_118 rfl rfl ?_
          refine zs_iload (n := 121) dX2_gather_119 rfl rfl ?_
          refine zs_aload_n (n := 122) dX2_gather_121 rfl rfl ?_
          refine zs_getv (x := ((u2 V (160 + 8 * i + k) 422 ((V (160 + 8 * i + k) 422) + (1 : Int32))) (160 + 8 * i + k) 419)) (n := 125) dX2_gather_122 gf_X2_159 (hR.kK hi hk) (hR.iv (lvK hi hk) (by decide) (by decide)) rfl ?_
          refine zs_iload (n := 127) dX2_gather_125 rfl rfl ?_
          refine zs_imul (n := 128) dX2_gather_127 rfl ?_
          refine zs_bipush (v := 100) (n := 130) dX2_gather_128 (by decide) rfl ?_
          refine zs_idiv (n := 131) dX2_gather_130 (by decide) rfl ?_
          refine zg_V (n := 134) (As := [.int (0 : Int32), .int ((((u2 V (160 + 8 * i + k) 422 ((V (160 + 8 * i + k) 422) + (1 : Int32))) (160 + 8 * i + k) 419) * (((V 5 482) + Int32.ofInt 10) + Int32.ofInt 50)) / (100 : Int32))]) (ci := 13) (mc := 0) (ms := 0) dX2_gather_131 ok_X8_move ⟨ml_X2_178, im_X8_move, sl_X8_move⟩ rfl (hR.kK hi hk) rfl (Nat.le_of_ble_eq_true rfl) (by simp) (by omega) (Nat.le_refl _) (Nat.le_refl _) rfl rfl (c_move hR hP hi hk) ?_
          intro M hR9
          have hR := hR9.1
          have hP := hR9.2
          refine zs_return dX2_gather_134 rfl ?_
          refine hQ _ ?_
          unfold gGath
          first
          | (rw [if_pos (zb1.mp h85), if_pos (zb1.mp h109)]; exact ⟨hR, hP⟩)
          | (rw [if_pos (zb1.mp h85), if_neg (by rw [zb0.mp h109]; decide)]; exact ⟨hR, hP⟩)
          | (rw [if_neg (by rw [zb0.mp h85]; decide), if_pos (zb1.mp h109)]; exact ⟨hR, hP⟩)
          | (rw [if_neg (by rw [zb0.mp h85]; decide), if_neg (by rw [zb0.mp h109]; decide)]; exact ⟨hR, hP⟩)
def gPay1 (S : zSt) (i k m : Nat) (V : Nat → Nat → Int32) : Nat → Nat → Int32 := u2 V (160 + 8 * i + k) 421 (gHat (160 + 8 * i + k) (140 + sT S i k) (zb (gRain V (nI m))) V)
def gPay2 (S : zSt) (i k : Nat) (V : Nat → Nat → Int32) : Nat → Nat → Int32 := gShare S (sT S i k) (V (160 + 8 * i + k) 421) V
def gPay3 (r : Nat) (V : Nat → Nat → Int32) : Nat → Nat → Int32 := u2 (u2 V 7 230 (V 7 230 + V r 421)) 7 231 (V 7 231 + V r 421)
def gEndV (S : zSt) (i k m : Nat) (V : Nat → Nat → Int32) : Nat → Nat → Int32 := if gBreaks (160 + 8 * i + k) V = true then u2 (u2 V (160 + 8 * i + k) 424 1) (160 + 8 * i + k) 418 (nI m) else if nI m = V (160 + 8 * i + k) 418 then gPay3 (160 + 8 * i + k) (gPay2 S i k (gPay1 S i k m V)) else V
theorem c_endIfDue {i k m : Nat} (hR : zRp Z Λ (wV S V) M) (hP : zPl Λ (wV S V, pl, nx) M) (h3 : sc S 3 = 1)(hi : i < sc S 0) (hk : k < sc S (10 + i)) : zG Z l 4 mth_X2_endIfDue [.ref (Λ 7), .ref (Λ (160 + 8 * i + k)), .int (nI m)] M 0 0 none (zRq Z Λ S (gEndV S i k m V, pl, nx)) := by
  intro Q hQ
  show zX Z l 4 mth_X2_endIfDue 0 [(0, .ref (Λ 7)), (1, .ref (Λ (160 + 8 * i + k))), (2, .int (nI m))] [] M 0 0 Q
  refine zs_aload_n (n := 1) dX2_endIfDue_0 rfl rfl ?_
  refine zc_V (n := 4) (As := []) (ci := 13) (mc := 0) (ms := 0) dX2_endIfDue_1 ok_X8_breaksNow ⟨ml_X2_182, im_X8_breaksNow, sl_X8_breaksNow⟩ rfl (hR.kK hi hk) rfl (Nat.le_of_ble_eq_true rfl) (by simp) (by omega) (Nat.le_refl _) (Nat.le_refl _) rfl rfl (c_breaksNow hR hi hk) ?_
  refine zs_if_eq (tgt := 15) (n := 7) dX2_endIfDue_4 (by decide) rfl (fun h4 => ?_) (fun h4 => ?_)
  · refine zs_iload_n (n := 16) dX2_endIfDue_15 rfl rfl ?_
    refine zs_aload_n (n := 17) dX2_endIfDue_16 rfl rfl ?_
    refine zs_getv (x := (V (160 + 8 * i + k) 418)) (n := 20) dX2_endIfDue_17 gf_X2_188 (hR.kK hi hk) (hR.iv (lvK hi hk) (by decide) (by decide)) rfl ?_
    refine zs_icmp_ne (tgt := 76) (n := 23) dX2_endIfDue_20 (by decide) rfl (fun h20 => ?_) (fun h20 => ?_)
    · refine zs_return dX2_endIfDue_76 rfl ?_
      refine hQ _ ?_
      unfold gEndV
      first
      | (rw [if_pos (zb1.mp h4)]; exact ⟨hR, hP⟩)
      | (rw [if_neg (by rw [zb0.mp h4]; decide), if_pos h20]; exact ⟨hR, hP⟩)
      | (rw [if_neg (by rw [zb0.mp h4]; decide), if_neg h20]; exact ⟨hR, hP⟩)
    · refine zs_aload_n (n := 24) dX2_endIfDue_23 rfl rfl ?_
      refine zs_aload_n (n := 25) dX2_endIfDue_24 rfl rfl ?_
      refine zs_getr (b := (Λ 5)) (n := 28) dX2_endIfDue_25 gf_X2_15 (hR.kd (lvC h3 (by omega))) (hR.pt (lvC h3 (by omega)) rfl (by decide)) rfl ?_
      refine zs_iload_n (n := 29) dX2_endIfDue_28 rfl rfl ?_
      refine zc_V (n := 32) (As := [.int (nI m)]) (ci := 15) (mc := 0) (ms := 0) dX2_endIfDue_29 ok_X10_isRaining ⟨ml_X2_143, im_X10_isRaining, sl_X10_isRaining⟩ rfl (hR.kd (lvC h3 (by omega))) rfl (Nat.le_of_ble_eq_true rfl) (by simp) (by omega) (Nat.le_refl _) (Nat.le_refl _) rfl rfl (c_isRaining hR h3) ?_
      refine zg_V (n := 35) (As := [.int (zb (gRain V (nI m)))]) (ci := 13) (mc := 0) (ms := 0) dX2_endIfDue_32 ok_X8_passHat ⟨ml_X2_191, im_X8_passHat, sl_X8_passHat⟩ rfl (hR.kK hi hk) rfl (Nat.le_of_ble_eq_true rfl) (by simp) (by omega) (Nat.le_refl _) (Nat.le_refl _) rfl rfl (c_passHat hR hP hi hk) ?_
      intro M hR9
      have hR := hR9.1
      have hP := hR9.2
      refine zs_aload_n (n := 36) dX2_endIfDue_35 rfl rfl ?_
      refine zs_getr (b := (Λ 2)) (n := 39) dX2_endIfDue_36 gf_X2_9 (hR.kd (lvC h3 (by omega))) (hR.pt (lvC h3 (by omega)) rfl (by decide)) rfl ?_
      refine zs_aload_n (n := 40) dX2_endIfDue_39 rfl rfl ?_
      refine zs_getv (x := ((u2 V (160 + 8 * i + k) 421 (gHat (160 + 8 * i + k) (140 + sT S i k) (zb (gRain V (nI m))) V)) (160 + 8 * i + k) 421)) (n := 43) dX2_endIfDue_40 gf_X2_195 (hR.kK hi hk) (hR.iv (lvK hi hk) (by decide) (by decide)) rfl ?_
      refine zs_aload_n (n := 44) dX2_endIfDue_43 rfl rfl ?_
      refine zs_getr (b := (Λ (140 + (sT (wV S (u2 V (160 + 8 * i + k) 421 (gHat (160 + 8 * i + k) (140 + sT S i k) (zb (gRain V (nI m))) V))) i k)))) (n := 47) dX2_endIfDue_44 gf_X2_86 (hR.kK hi hk) (hR.act hi hk) rfl ?_
      refine zg_V (n := 50) (As := [.int ((u2 V (160 + 8 * i + k) 421 (gHat (160 + 8 * i + k) (140 + sT S i k) (zb (gRain V (nI m))) V)) (160 + 8 * i + k) 421), .ref (Λ (140 + (sT (wV S (u2 V (160 + 8 * i + k) 421 (gHat (160 + 8 * i + k) (140 + sT S i k) (zb (gRain V (nI m))) V))) i k)))]) (ci := 12) (mc := 0) (ms := 0) dX2_endIfDue_47 ok_X7_share ⟨ml_X2_196, im_X7_share, sl_X7_share⟩ rfl (hR.kd (lvC h3 (by omega))) rfl (Nat.le_of_ble_eq_true rfl) (by simp) (by omega) (Nat.le_refl _) (Nat.le_refl _) rfl rfl (c_share hR hP h3 (hR.actb hi hk)) ?_
      intro M hR9
      have hR := hR9.1
      have hP := hR9.2
      refine zs_aload_n (n := 51) dX2_endIfDue_50 rfl rfl ?_
      refine zs_dup (n := 52) dX2_endIfDue_51 rfl rfl ?_
      refine zs_getv (x := ((gShare S (sT (wV S (u2 V (160 + 8 * i + k) 421 (gHat (160 + 8 * i + k) (140 + sT S i k) (zb (gRain V (nI m))) V))) i k) ((u2 V (160 + 8 * i + k) 421 (gHat (160 + 8 * i + k) (140 + sT S i k) (zb (gRain V (nI m))) V)) (160 + 8 * i + k) 421) (u2 V (160 + 8 * i + k) 421 (gHat (160 + 8 * i + k) (140 + sT S i k) (zb (gRain V (nI m))) V))) 7 230)) (n := 55) dX2_endIfDue_52 gf_X2_37 (hR.kd (lvC h3 (by omega))) (hR.iv (lvC h3 (by omega)) (by decide) (by decide)) rfl ?_
      refine zs_aload_n (n := 56) dX2_endIfDue_55 rfl rfl ?_
      refine zs_getv (x := ((gShare S (sT (wV S (u2 V (160 + 8 * i + k) 421 (gHat (160 + 8 * i + k) (140 + sT S i k) (zb (gRain V (nI m))) V))) i k) ((u2 V (160 + 8 * i + k) 421 (gHat (160 + 8 * i + k) (140 + sT S i k) (zb (gRain V (nI m))) V)) (160 + 8 * i + k) 421) (u2 V (160 + 8 * i + k) 421 (gHat (160 + 8 * i + k) (140 + sT S i k) (zb (gRain V (nI m))) V))) (160 + 8 * i + k) 421)) (n := 59) dX2_endIfDue_56 gf_X2_195 (hR.kK hi hk) (hR.iv (lvK hi hk) (by decide) (by decide)) rfl ?_
      refine zs_iadd (n := 60) dX2_endIfDue_59 rfl ?_
      refine zw_i (r := 7) (n := 63) dX2_endIfDue_60 pf_X2_endIfDue_37 hR (lvC h3 (by omega)) (hR.kd (lvC h3 (by omega))) ⟨rfl, rfl⟩ (by decide) rfl ?_
      intro M hR hv
      have hR : zRp Z Λ (wV S (u2 (gShare S (sT (wV S (u2 V (160 + 8 * i + k) 421 (gHat (160 + 8 * i + k) (140 + sT S i k) (zb (gRain V (nI m))) V))) i k) ((u2 V (160 + 8 * i + k) 421 (gHat (160 + 8 * i + k) (140 + sT S i k) (zb (gRain V (nI m))) V)) (160 + 8 * i + k) 421) (u2 V (160 + 8 * i + k) 421 (gHat (160 + 8 * i + k) (140 + sT S i k) (zb (gRain V (nI m))) V))) 7 230 (((gShare S (sT (wV S (u2 V (160 + 8 * i + k) 421 (gHat (160 + 8 * i + k) (140 + sT S i k) (zb (gRain V (nI m))) V))) i k) ((u2 V (160 + 8 * i + k) 421 (gHat (160 + 8 * i + k) (140 + sT S i k) (zb (gRain V (nI m))) V)) (160 + 8 * i + k) 421) (u2 V (160 + 8 * i + k) 421 (gHat (160 + 8 * i + k) (140 + sT S i k) (zb (gRain V (nI m))) V))) 7 230) + ((gShare S (sT (wV S (u2 V (160 + 8 * i + k) 421 (gHat (160 + 8 * i + k) (140 + sT S i k) (zb (gRain V (nI m))) V))) i k) ((u2 V (160 + 8 * i + k) 421 (gHat (160 + 8 * i + k) (140 + sT S i k) (zb (gRain V (nI m))) V)) (160 + 8 * i + k) 421) (u2 V (160 + 8 * i + k) 421 (gHat (160 + 8 * i + k) (140 + sT S i k) (zb (gRain V (nI m))) V))) (160 + 8 * i + k) 421)))) M := hR
      have hP : zPl Λ ((wV S (u2 (gShare S (sT (wV S (u2 V (160 + 8 * i + k) 421 (gHat (160 + 8 * i + k) (140 + sT S i k) (zb (gRain V (nI m))) V))) i k) ((u2 V (160 + 8 * i + k) 421 (gHat (160 + 8 * i + k) (140 + sT S i k) (zb (gRain V (nI m))) V)) (160 + 8 * i + k) 421) (u2 V (160 + 8 * i + k) 421 (gHat (160 + 8 * i + k) (140 + sT S i k) (zb (gRain V (nI m))) V))) 7 230 (((gShare S (sT (wV S (u2 V (160 + 8 * i + k) 421 (gHat (160 + 8 * i + k) (140 + sT S i k) (zb (gRain V (nI m))) V))) i k) ((u2 V (160 + 8 * i + k) 421 (gHat (160 + 8 * i + k) (140 + sT S i k) (zb (gRain V (nI m))) V)) (160 + 8 * i + k) 421) (u2 V (160 + 8 * i + k) 421 (gHat (160 + 8 * i + k) (140 + sT S i k) (zb (gRain V (nI m))) V))) 7 230) + ((gShare S (sT (wV S (u2 V (160 + 8 * i + k) 421 (gHat (160 + 8 * i + k) (140 + sT S i k) (zb (gRain V (nI m))) V))) i k) ((u2 V (160 + 8 * i + k) 421 (gHat (160 + 8 * i + k) (140 + sT S i k) (zb (gRain V (nI m))) V)) (160 + 8 * i + k) 421) (u2 V (160 + 8 * i + k) 421 (gHat (160 + 8 * i + k) (140 + sT S i k) (zb (gRain V (nI m))) V))) (160 + 8 * i + k) 421)))), pl, nx) M := zPl.of (T := (wV S (gShare S (sT (wV S (u2 V (160 + 8 * i + k) 421 (gHat (160 + 8 * i + k) (140 + sT S i k) (zb (gRain V (nI m))) V))) i k) ((u2 V (160 + 8 * i + k) 421 (gHat (160 + 8 * i + k) (140 + sT S i k) (zb (gRain V (nI m))) V)) (160 + 8 * i + k) 421) (u2 V (160 + 8 * i + k) 421 (gHat (160 + 8 * i + k) (140 + sT S i k) (zb (gRain V (nI m))) V))), pl, nx)) hP hv rfl rfl (fun _ => rfl) (fun _ => rfl)
      refine zs_aload_n (n := 64) dX2_endIfDue_63 rfl rfl ?_
      refine zs_dup (n := 65) dX2_endIfDue_64 rfl rfl ?_
      refine zs_getv (x := ((u2 (gShare S (sT (wV S (u2 V (160 + 8 * i + k) 421 (gHat (160 + 8 * i + k) (140 + sT S i k) (zb (gRain V (nI m))) V))) i k) ((u2 V (160 + 8 * i + k) 421 (gHat (160 + 8 * i + k) (140 + sT S i k) (zb (gRain V (nI m))) V)) (160 + 8 * i + k) 421) (u2 V (160 + 8 * i + k) 421 (gHat (160 + 8 * i + k) (140 + sT S i k) (zb (gRain V (nI m))) V))) 7 230 (((gShare S (sT (wV S (u2 V (160 + 8 * i + k) 421 (gHat (160 + 8 * i + k) (140 + sT S i k) (zb (gRain V (nI m))) V))) i k) ((u2 V (160 + 8 * i + k) 421 (gHat (160 + 8 * i + k) (140 + sT S i k) (zb (gRain V (nI m))) V)) (160 + 8 * i + k) 421) (u2 V (160 + 8 * i + k) 421 (gHat (160 + 8 * i + k) (140 + sT S i k) (zb (gRain V (nI m))) V))) 7 230) + ((gShare S (sT (wV S (u2 V (160 + 8 * i + k) 421 (gHat (160 + 8 * i + k) (140 + sT S i k) (zb (gRain V (nI m))) V))) i k) ((u2 V (160 + 8 * i + k) 421 (gHat (160 + 8 * i + k) (140 + sT S i k) (zb (gRain V (nI m))) V)) (160 + 8 * i + k) 421) (u2 V (160 + 8 * i + k) 421 (gHat (160 + 8 * i + k) (140 + sT S i k) (zb (gRain V (nI m))) V))) (160 + 8 * i + k) 421))) 7 231)) (n := 68) dX2_endIfDue_65 gf_X2_200 (hR.kd (lvC h3 (by omega))) (hR.iv (lvC h3 (by omega)) (by decide) (by decide)) rfl ?_
      refine zs_aload_n (n := 69) dX2_endIfDue_68 rfl rfl ?_
      refine zs_getv (x := ((u2 (gShare S (sT (wV S (u2 V (160 + 8 * i + k) 421 (gHat (160 + 8 * i + k) (140 + sT S i k) (zb (gRain V (nI m))) V))) i k) ((u2 V (160 + 8 * i + k) 421 (gHat (160 + 8 * i + k) (140 + sT S i k) (zb (gRain V (nI m))) V)) (160 + 8 * i + k) 421) (u2 V (160 + 8 * i + k) 421 (gHat (160 + 8 * i + k) (140 + sT S i k) (zb (gRain V (nI m))) V))) 7 230 (((gShare S (sT (wV S (u2 V (160 + 8 * i + k) 421 (gHat (160 + 8 * i + k) (140 + sT S i k) (zb (gRain V (nI m))) V))) i k) ((u2 V (160 + 8 * i + k) 421 (gHat (160 + 8 * i + k) (140 + sT S i k) (zb (gRain V (nI m))) V)) (160 + 8 * i + k) 421) (u2 V (160 + 8 * i + k) 421 (gHat (160 + 8 * i + k) (140 + sT S i k) (zb (gRain V (nI m))) V))) 7 230) + ((gShare S (sT (wV S (u2 V (160 + 8 * i + k) 421 (gHat (160 + 8 * i + k) (140 + sT S i k) (zb (gRain V (nI m))) V))) i k) ((u2 V (160 + 8 * i + k) 421 (gHat (160 + 8 * i + k) (140 + sT S i k) (zb (gRain V (nI m))) V)) (160 + 8 * i + k) 421) (u2 V (160 + 8 * i + k) 421 (gHat (160 + 8 * i + k) (140 + sT S i k) (zb (gRain V (nI m))) V))) (160 + 8 * i + k) 421))) (160 + 8 * i + k) 421)) (n := 72) dX2_endIfDue_69 gf_X2_195 (hR.kK hi hk) (hR.iv (lvK hi hk) (by decide) (by decide)) rfl ?_
      refine zs_iadd (n := 73) dX2_endIfDue_72 rfl ?_
      refine zw_i (r := 7) (n := 76) dX2_endIfDue_73 pf_X2_endIfDue_200 hR (lvC h3 (by omega)) (hR.kd (lvC h3 (by omega))) ⟨rfl, rfl⟩ (by decide) rfl ?_
      intro M hR hv
      have hR : zRp Z Λ (wV S (u2 (u2 (gShare S (sT (wV S (u2 V (160 + 8 * i + k) 421 (gHat (160 + 8 * i + k) (140 + sT S i k) (zb (gRain V (nI m))) V))) i k) ((u2 V (160 + 8 * i + k) 421 (gHat (160 + 8 * i + k) (140 + sT S i k) (zb (gRain V (nI m))) V)) (160 + 8 * i + k) 421) (u2 V (160 + 8 * i + k) 421 (gHat (160 + 8 * i + k) (140 + sT S i k) (zb (gRain V (nI m))) V))) 7 230 (((gShare S (sT (wV S (u2 V (160 + 8 * i + k) 421 (gHat (160 + 8 * i + k) (140 + sT S i k) (zb (gRain V (nI m))) V))) i k) ((u2 V (160 + 8 * i + k) 421 (gHat (160 + 8 * i + k) (140 + sT S i k) (zb (gRain V (nI m))) V)) (160 + 8 * i + k) 421) (u2 V (160 + 8 * i + k) 421 (gHat (160 + 8 * i + k) (140 + sT S i k) (zb (gRain V (nI m))) V))) 7 230) + ((gShare S (sT (wV S (u2 V (160 + 8 * i + k) 421 (gHat (160 + 8 * i + k) (140 + sT S i k) (zb (gRain V (nI m))) V))) i k) ((u2 V (160 + 8 * i + k) 421 (gHat (160 + 8 * i + k) (140 + sT S i k) (zb (gRain V (nI m))) V)) (160 + 8 * i + k) 421) (u2 V (160 + 8 * i + k) 421 (gHat (160 + 8 * i + k) (140 + sT S i k) (zb (gRain V (nI m))) V))) (160 + 8 * i + k) 421))) 7 231 (((u2 (gShare S (sT (wV S (u2 V (160 + 8 * i + k) 421 (gHat (160 + 8 * i + k) (140 + sT S i k) (zb (gRain V (nI m))) V))) i k) ((u2 V (160 + 8 * i + k) 421 (gHat (160 + 8 * i + k) (140 + sT S i k) (zb (gRain V (nI m))) V)) (160 + 8 * i + k) 421) (u2 V (160 + 8 * i + k) 421 (gHat (160 + 8 * i + k) (140 + sT S i k) (zb (gRain V (nI m))) V))) 7 230 (((gShare S (sT (wV S (u2 V (160 + 8 * i + k) 421 (gHat (160 + 8 * i + k) (140 + sT S i k) (zb (gRain V (nI m))) V))) i k) ((u2 V (160 + 8 * i + k) 421 (gHat (160 + 8 * i + k) (140 + sT S i k) (zb (gRain V (nI m))) V)) (160 + 8 * i + k) 421) (u2 V (160 + 8 * i + k) 421 (gHat (160 + 8 * i + k) (140 + sT S i k) (zb (gRain V (nI m))) V))) 7 230) + ((gShare S (sT (wV S (u2 V (160 + 8 * i + k) 421 (gHat (160 + 8 * i + k) (140 + sT S i k) (zb (gRain V (nI m))) V))) i k) ((u2 V (160 + 8 * i + k) 421 (gHat (160 + 8 * i + k) (140 + sT S i k) (zb (gRain V (nI m))) V)) (160 + 8 * i + k) 421) (u2 V (160 + 8 * i + k) 421 (gHat (160 + 8 * i + k) (140 + sT S i k) (zb (gRain V (nI m))) V))) (160 + 8 * i + k) 421))) 7 231) + ((u2 (gShare S (sT (wV S (u2 V (160 + 8 * i + k) 421 (gHat (160 + 8 * i + k) (140 + sT S i k) (zb (gRain V (nI m))) V))) i k) ((u2 V (160 + 8 * i + k) 421 (gHat (160 + 8 * i + k) (140 + sT S i k) (zb (gRain V (nI m))) V)) (160 + 8 * i + k) 421) (u2 V (160 + 8 * i + k) 421 (gHat (160 + 8 * i + k) (140 + sT S i k) (zb (gRain V (nI m))) V))) 7 230 (((gShare S (sT (wV S (u2 V (160 + 8 * i + k) 421 (gHat (160 + 8 * i + k) (140 + sT S i k) (zb (gRain V (nI m))) V))) i k) ((u2 V (160 + 8 * i + k) 421 (gHat (160 + 8 * i + k) (140 + sT S i k) (zb (gRain V (nI m))) V)) (160 + 8 * i + k) 421) (u2 V (160 + 8 * i + k) 421 (gHat (160 + 8 * i + k) (140 + sT S i k) (zb (gRain V (nI m))) V))) 7 230) + ((gShare S (sT (wV S (u2 V (160 + 8 * i + k) 421 (gHat (160 + 8 * i + k) (140 + sT S i k) (zb (gRain V (nI m))) V))) i k) ((u2 V (160 + 8 * i + k) 421 (gHat (160 + 8 * i + k) (140 + sT S i k) (zb (gRain V (nI m))) V)) (160 + 8 * i + k) 421) (u2 V (160 + 8 * i + k) 421 (gHat (160 + 8 * i + k) (140 + sT S i k) (zb (gRain V (nI m))) V))) (160 + 8 * i + k) 421))) (160 + 8 * i + k) 421)))) M := hR
      have hP : zPl Λ ((wV S (u2 (u2 (gShare S (sT (wV S (u2 V (160 + 8 * i + k) 421 (gHat (160 + 8 * i + k) (140 + sT S i k) (zb (gRain V (nI m))) V))) i k) ((u2 V (160 + 8 * i + k) 421 (gHat (160 + 8 * i + k) (140 + sT S i k) (zb (gRain V (nI m))) V)) (160 + 8 * i + k) 421) (u2 V (160 + 8 * i + k) 421 (gHat (160 + 8 * i + k) (140 + sT S i k) (zb (gRain V (nI m))) V))) 7 230 (((gShare S (sT (wV S (u2 V (160 + 8 * i + k) 421 (gHat (160 + 8 * i + k) (140 + sT S i k) (zb (gRain V (nI m))) V))) i k) ((u2 V (160 + 8 * i + k) 421 (gHat (160 + 8 * i + k) (140 + sT S i k) (zb (gRain V (nI m))) V)) (160 + 8 * i + k) 421) (u2 V (160 + 8 * i + k) 421 (gHat (160 + 8 * i + k) (140 + sT S i k) (zb (gRain V (nI m))) V))) 7 230) + ((gShare S (sT (wV S (u2 V (160 + 8 * i + k) 421 (gHat (160 + 8 * i + k) (140 + sT S i k) (zb (gRain V (nI m))) V))) i k) ((u2 V (160 + 8 * i + k) 421 (gHat (160 + 8 * i + k) (140 + sT S i k) (zb (gRain V (nI m))) V)) (160 + 8 * i + k) 421) (u2 V (160 + 8 * i + k) 421 (gHat (160 + 8 * i + k) (140 + sT S i k) (zb (gRain V (nI m))) V))) (160 + 8 * i + k) 421))) 7 231 (((u2 (gShare S (sT (wV S (u2 V (160 + 8 * i + k) 421 (gHat (160 + 8 * i + k) (140 + sT S i k) (zb (gRain V (nI m))) V))) i k) ((u2 V (160 + 8 * i + k) 421 (gHat (160 + 8 * i + k) (140 + sT S i k) (zb (gRain V (nI m))) V)) (160 + 8 * i + k) 421) (u2 V (160 + 8 * i + k) 421 (gHat (160 + 8 * i + k) (140 + sT S i k) (zb (gRain V (nI m))) V))) 7 230 (((gShare S (sT (wV S (u2 V (160 + 8 * i + k) 421 (gHat (160 + 8 * i + k) (140 + sT S i k) (zb (gRain V (nI m))) V))) i k) ((u2 V (160 + 8 * i + k) 421 (gHat (160 + 8 * i + k) (140 + sT S i k) (zb (gRain V (nI m))) V)) (160 + 8 * i + k) 421) (u2 V (160 + 8 * i + k) 421 (gHat (160 + 8 * i + k) (140 + sT S i k) (zb (gRain V (nI m))) V))) 7 230) + ((gShare S (sT (wV S (u2 V (160 + 8 * i + k) 421 (gHat (160 + 8 * i + k) (140 + sT S i k) (zb (gRain V (nI m))) V))) i k) ((u2 V (160 + 8 * i + k) 421 (gHat (160 + 8 * i + k) (140 + sT S i k) (zb (gRain V (nI m))) V)) (160 + 8 * i + k) 421) (u2 V (160 + 8 * i + k) 421 (gHat (160 + 8 * i + k) (140 + sT S i k) (zb (gRain V (nI m))) V))) (160 + 8 * i + k) 421))) 7 231) + ((u2 (gShare S (sT (wV S (u2 V (160 + 8 * i + k) 421 (gHat (160 + 8 * i + k) (140 + sT S i k) (zb (gRain V (nI m))) V))) i k) ((u2 V (160 + 8 * i + k) 421 (gHat (160 + 8 * i + k) (140 + sT S i k) (zb (gRain V (nI m))) V)) (160 + 8 * i + k) 421) (u2 V (160 + 8 * i + k) 421 (gHat (160 + 8 * i + k) (140 + sT S i k) (zb (gRain V (nI m))) V))) 7 230 (((gShare S (sT (wV S (u2 V (160 + 8 * i + k) 421 (gHat (160 + 8 * i + k) (140 + sT S i k) (zb (gRain V (nI m))) V))) i k) ((u2 V (160 + 8 * i + k) 421 (gHat (160 + 8 * i + k) (140 + sT S i k) (zb (gRain V (nI m))) V)) (160 + 8 * i + k) 421) (u2 V (160 + 8 * i + k) 421 (gHat (160 + 8 * i + k) (140 + sT S i k) (zb (gRain V (nI m))) V))) 7 230) + ((gShare S (sT (wV S (u2 V (160 + 8 * i + k) 421 (gHat (160 + 8 * i + k) (140 + sT S i k) (zb (gRain V (nI m))) V))) i k) ((u2 V (160 + 8 * i + k) 421 (gHat (160 + 8 * i + k) (140 + sT S i k) (zb (gRain V (nI m))) V)) (160 + 8 * i + k) 421) (u2 V (160 + 8 * i + k) 421 (gHat (160 + 8 * i + k) (140 + sT S i k) (zb (gRain V (nI m))) V))) (160 + 8 * i + k) 421))) (160 + 8 * i + k) 421)))), pl, nx) M := zPl.of (T := (wV S (u2 (gShare S (sT (wV S (u2 V (160 + 8 * i + k) 421 (gHat (160 + 8 * i + k) (140 + sT S i k) (zb (gRain V (nI m))) V))) i k) ((u2 V (160 + 8 * i + k) 421 (gHat (160 + 8 * i + k) (140 + sT S i k) (zb (gRain V (nI m))) V)) (160 + 8 * i + k) 421) (u2 V (160 + 8 * i + k) 421 (gHat (160 + 8 * i + k) (140 + sT S i k) (zb (gRain V (nI m))) V))) 7 230 (((gShare S (sT (wV S (u2 V (160 + 8 * i + k) 421 (gHat (160 + 8 * i + k) (140 + sT S i k) (zb (gRain V (nI m))) V))) i k) ((u2 V (160 + 8 * i + k) 421 (gHat (160 + 8 * i + k) (140 + sT S i k) (zb (gRain V (nI m))) V)) (160 + 8 * i + k) 421) (u2 V (160 + 8 * i + k) 421 (gHat (160 + 8 * i + k) (140 + sT S i k) (zb (gRain V (nI m))) V))) 7 230) + ((gShare S (sT (wV S (u2 V (160 + 8 * i + k) 421 (gHat (160 + 8 * i + k) (140 + sT S i k) (zb (gRain V (nI m))) V))) i k) ((u2 V (160 + 8 * i + k) 421 (gHat (160 + 8 * i + k) (140 + sT S i k) (zb (gRain V (nI m))) V)) (160 + 8 * i + k) 421) (u2 V (160 + 8 * i + k) 421 (gHat (160 + 8 * i + k) (140 + sT S i k) (zb (gRain V (nI m))) V))) (160 + 8 * i + k) 421))), pl, nx)) hP hv rfl rfl (fun _ => rfl) (fun _ => rfl)
      refine zs_return dX2_endIfDue_76 rfl ?_
      refine hQ _ ?_
      unfold gEndV
      first
      | (rw [if_pos (zb1.mp h4)]; exact ⟨hR, hP⟩)
      | (rw [if_neg (by rw [zb0.mp h4]; decide), if_pos h20]; exact ⟨hR, hP⟩)
      | (rw [if_neg (by rw [zb0.mp h4]; decide), if_neg h20]; exact ⟨hR, hP⟩)
  · refine zs_aload_n (n := 8) dX2_endIfDue_7 rfl rfl ?_
    refine zs_iload_n (n := 9) dX2_endIfDue_8 rfl rfl ?_
    refine zg_V (n := 12) (As := [.int (nI m)]) (ci := 13) (mc := 0) (ms := 0) dX2_endIfDue_9 ok_X8_breakAt ⟨ml_X2_185, im_X8_breakAt, sl_X8_breakAt⟩ rfl (hR.kK hi hk) rfl (Nat.le_of_ble_eq_true rfl) (by simp) (by omega) (Nat.le_refl _) (Nat.le_refl _) rfl rfl (c_breakAt hR hP hi hk) ?_
    intro M hR9
    have hR := hR9.1
    have hP := hR9.2
    refine zs_goto (tgt := 76) dX2_endIfDue_12 (by decide) ?_
    refine zs_return dX2_endIfDue_76 rfl ?_
    refine hQ _ ?_
    unfold gEndV
    first
    | (rw [if_pos (zb1.mp h4)]; exact ⟨hR, hP⟩)
    | (rw [if_neg (by rw [zb0.mp h4]; decide), if_pos h20]; exact ⟨hR, hP⟩)
    | (rw [if_neg (by rw [zb0.mp h4]; decide), if_neg h20]; exact ⟨hR, hP⟩)
def gStep (S : zSt) (m i : Nat) (t : zVp) : zVp := match t.2.1 i with
  | none => t
  | some k => (gEndV S i k m (gGath S i k m t), t.2.1, t.2.2)
def gStepAll (S : zSt) (m j : Nat) (t : zVp) : zVp := zit (fun i t => gStep S m i t) j t
theorem c_playMinute {m : Nat} (hR : zRp Z Λ (wV S V) M) (hP : zPl Λ (wV S V, pl, nx) M) (h3 : sc S 3 = 1)(h6 : 600 ≤ m) (h12 : m < 1200) : zG Z l 6 mth_X2_playMinute [.ref (Λ 7), .int (nI m)] M 0 0 none (zRq Z Λ S (gStepAll S m (sc S 0) (V, pl, nx))) := by
  intro Q hQ
  show zX Z l 6 mth_X2_playMinute 0 [(0, .ref (Λ 7)), (1, .int (nI m))] [] M 0 0 Q
  refine zs_iconst (v := 0) (n := 1) dX2_playMinute_0 (by decide) rfl ?_
  refine zs_istore_n (n := 2) dX2_playMinute_1 (by decide) rfl ?_
  refine zX.sub (L' := [(0, .ref (Λ 7)), (1, .int (nI m)), (2, .int (nI 0))]) ⟨rfl, rfl, rfl, trivial⟩ ?_
  refine zloop (n := sc S 0) (X := fun j => ∀ M, zRq Z Λ S (gStepAll S m j (V, pl, nx)) M → zX Z l 6 mth_X2_playMinute 2 [(0, .ref (Λ 7)), (1, .int (nI m)), (2, .int (nI j))] [] M 0 0 Q) (fun j hj ih => ?_) ?_ 0 (Nat.zero_le _) M ?_
  · intro M hR9
    have hR := hR9.1
    have hP := hR9.2
    have hb : sc S 0 ≤ _ := hR.bnd.1.1
    refine zs_iload_n (n := 3) dX2_playMinute_2 rfl rfl ?_
    refine zs_aload_n (n := 4) dX2_playMinute_3 rfl rfl ?_
    refine zs_getr (b := (Λ 2)) (n := 7) dX2_playMinute_4 gf_X2_9 (hR.kd (lvC h3 (by omega))) (hR.pt (lvC h3 (by omega)) rfl (by decide)) rfl ?_
    refine zs_getr (b := (Λ 15)) (n := 10) dX2_playMinute_7 gf_X2_132 (hR.kd (lvC h3 (by omega))) (hR.pt (lvC h3 (by omega)) rfl (by decide)) rfl ?_
    refine zc_size (c := sc S 0) (n := 13) dX2_playMinute_10 ml_X2_63 (hR.lP h3) (by simp) (by omega) rfl ?_
    refine zs_icmp_ge (tgt := 63) (n := 16) dX2_playMinute_13 (by decide) rfl (fun h => absurd h (nI_ge hj (by omega))) (fun _ => ?_)
    refine zs_aload_n (n := 17) dX2_playMinute_16 rfl rfl ?_
    refine zs_getr (b := (Λ 2)) (n := 20) dX2_playMinute_17 gf_X2_9 (hR.kd (lvC h3 (by omega))) (hR.pt (lvC h3 (by omega)) rfl (by decide)) rfl ?_
    refine zs_getr (b := (Λ 15)) (n := 23) dX2_playMinute_20 gf_X2_132 (hR.kd (lvC h3 (by omega))) (hR.pt (lvC h3 (by omega)) rfl (by decide)) rfl ?_
    refine zs_iload_n (n := 24) dX2_playMinute_23 rfl rfl ?_
    refine zc_getb (c := sc S 0) (b := (Λ (100 + j))) (n := 27) dX2_playMinute_24 ml_X2_67 (hR.lP h3) hj rfl (by simp) (by omega) rfl ?_
    refine zs_castS (ci := 11) (n := 30) dX2_playMinute_27 rfl cl_X2_78 (hR.kP hj) rfl ?_
    refine zs_astore_n (n := 31) dX2_playMinute_30 (by decide) rfl ?_
    refine zs_aload_n (n := 32) dX2_playMinute_31 rfl rfl ?_
    rcases zopt ((gStepAll S m j (V, pl, nx)).2.1 j) with hpl32 | ⟨k32, hpl32⟩
    · refine zs_getN (n := 35) dX2_playMinute_32 gf_X2_77 (hR.kP hj) (((hP.1 _ hj).1.1).trans (by show ((gStepAll S m j (V, pl, nx)).2.1 j).map _ = _; rw [hpl32]; rfl)) rfl ?_
      refine zs_astoreN (n := 37) dX2_playMinute_35 (by decide) rfl ?_
      refine zs_aloadN (n := 39) dX2_playMinute_37 rfl rfl ?_
      refine zs_ifnullN (tgt := 57) dX2_playMinute_39 (by decide) ?_
      refine zs_iinc (v := (nI (j + 1))) (n := 60) dX2_playMinute_57 rfl (nI_1 _) (by decide) rfl ?_
      refine zs_goto (tgt := 2) dX2_playMinute_60 (by decide) ?_
      refine zX.sub (L' := [(0, .ref (Λ 7)), (1, .int (nI m)), (2, .int (nI (j + 1)))]) ⟨rfl, rfl, rfl, trivial⟩ ?_
      refine ih M ?_
      show zRq Z Λ S (gStep S m j (gStepAll S m j (V, pl, nx))) M
      unfold gStep
      simp only [hpl32]
      exact ⟨hR, hP⟩
    · have hk32 := (hP.1 _ hj).1.2 k32 hpl32
      refine zs_getr (b := (Λ (160 + 8 * j + k32))) (n := 35) dX2_playMinute_32 gf_X2_77 (hR.kP hj) (((hP.1 _ hj).1.1).trans (by show ((gStepAll S m j (V, pl, nx)).2.1 j).map _ = _; rw [hpl32]; rfl)) rfl ?_
      refine zs_astore (n := 37) dX2_playMinute_35 (by decide) rfl ?_
      refine zs_aload (n := 39) dX2_playMinute_37 rfl rfl ?_
      refine zs_ifnull (n := 42) dX2_playMinute_39 rfl ?_
      refine zs_aload_n (n := 43) dX2_playMinute_42 rfl rfl ?_
      refine zs_aload_n (n := 44) dX2_playMinute_43 rfl rfl ?_
      refine zs_aload (n := 46) dX2_playMinute_44 rfl rfl ?_
      refine zs_iload_n (n := 47) dX2_playMinute_46 rfl rfl ?_
      refine zg_V (n := 50) (As := [.ref (Λ (100 + j)), .ref (Λ (160 + 8 * j + k32)), .int (nI m)]) (ci := 7) (mc := 0) (ms := 0) dX2_playMinute_47 ok_X2_gather ⟨ml_X2_135, im_X2_gather, sl_X2_gather⟩ rfl (hR.kd (lvC h3 (by omega))) rfl (Nat.le_of_ble_eq_true rfl) (by simp) (by omega) (Nat.le_refl _) (Nat.le_refl _) rfl rfl (c_gather hR hP h3 hj hk32 (by omega) (by omega)) ?_
      intro M hR9
      have hR := hR9.1
      have hP := hR9.2
      refine zs_aload_n (n := 51) dX2_playMinute_50 rfl rfl ?_
      refine zs_aload (n := 53) dX2_playMinute_51 rfl rfl ?_
      refine zs_iload_n (n := 54) dX2_playMinute_53 rfl rfl ?_
      refine zg_V (n := 57) (As := [.ref (Λ (160 + 8 * j + k32)), .int (nI m)]) (ci := 7) (mc := 0) (ms := 0) dX2_playMinute_54 ok_X2_endIfDue ⟨ml_X2_139, im_X2_endIfDue, sl_X2_endIfDue⟩ rfl (hR.kd (lvC h3 (by omega))) rfl (Nat.le_of_ble_eq_true rfl) (by simp) (by omega) (Nat.le_refl _) (Nat.le_refl _) rfl rfl (c_endIfDue hR hP h3 hj hk32) ?_
      intro M hR9
      have hR := hR9.1
      have hP := hR9.2
      refine zs_iinc (v := (nI (j + 1))) (n := 60) dX2_playMinute_57 rfl (nI_1 _) (by decide) rfl ?_
      refine zs_goto (tgt := 2) dX2_playMinute_60 (by decide) ?_
      refine zX.sub (L' := [(0, .ref (Λ 7)), (1, .int (nI m)), (2, .int (nI (j + 1)))]) ⟨rfl, rfl, rfl, trivial⟩ ?_
      refine ih M ?_
      show zRq Z Λ S (gStep S m j (gStepAll S m j (V, pl, nx))) M
      unfold gStep
      simp only [hpl32]
      exact ⟨hR, hP⟩
  · intro M hR9
    have hR := hR9.1
    have hP := hR9.2
    have hb : sc S 0 ≤ _ := hR.bnd.1.1
    refine zs_iload_n (n := 3) dX2_playMinute_2 rfl rfl ?_
    refine zs_aload_n (n := 4) dX2_playMinute_3 rfl rfl ?_
    refine zs_getr (b := (Λ 2)) (n := 7) dX2_playMinute_4 gf_X2_9 (hR.kd (lvC h3 (by omega))) (hR.pt (lvC h3 (by omega)) rfl (by decide)) rfl ?_
    refine zs_getr (b := (Λ 15)) (n := 10) dX2_playMinute_7 gf_X2_132 (hR.kd (lvC h3 (by omega))) (hR.pt (lvC h3 (by omega)) rfl (by decide)) rfl ?_
    refine zc_size (c := sc S 0) (n := 13) dX2_playMinute_10 ml_X2_63 (hR.lP h3) (by simp) (by omega) rfl ?_
    refine zs_icmp_ge (tgt := 63) (n := 16) dX2_playMinute_13 (by decide) rfl (fun _ => ?_) (fun h => absurd (nI_le (Nat.le_refl _) (by omega)) h)
    refine zs_return dX2_playMinute_63 rfl ?_
    exact hQ _ hR9
  · exact ⟨hR, hP⟩
def gMinute (S : zSt) (m : Nat) (t : zVp) : zVp := gStepAll S m (sc S 0) (gVisAll S m (sc S 2) (gMinAll S m (sc S 0) t))
def gRun (S : zSt) (j : Nat) (t : zVp) : zVp := zit (fun j t => if gAllOver S t = true then t else gMinute S (600 + j) t) j t
theorem gRun_over {S : zSt} {t : zVp} {j : Nat} (h : gAllOver S (gRun S j t) = true) : ∀ n, gRun S (j + n) t = gRun S j t
  | 0 => rfl
  | n + 1 => by
    show (if gAllOver S (gRun S (j + n) t) = true then gRun S (j + n) t else gMinute S (600 + (j + n)) (gRun S (j + n) t)) = _
    rw [gRun_over h n, if_pos h]
def gDay0 (S : zSt) : zVp := (fOD (sc S 0) (sV S), fun _ => none, fun _ => 0)
def gDay (S : zSt) : Nat → Nat → Int32 := u2 (gRun S 600 (gDay0 S)).1 7 228 1
theorem c_run  (hR : zRp Z Λ S M) (h3 : sc S 3 = 1) (hC : ∀ j, j < sc S 2 → zCh (sV S (150 + j) 450)) : zG Z l 7 mth_X2_run [.ref (Λ 7)] M 0 0 none (zRp Z Λ (wV S (gDay S))) := by
  intro Q hQ
  show zX Z l 7 mth_X2_run 0 [(0, .ref (Λ 7))] [] M 0 0 Q
  refine zs_aload_n (n := 1) dX2_run_0 rfl rfl ?_
  refine zs_getr (b := (Λ 2)) (n := 4) dX2_run_1 gf_X2_9 (hR.kd (lvC h3 (by omega))) (hR.pt (lvC h3 (by omega)) rfl (by decide)) rfl ?_
  refine zg_V (n := 7) (As := []) (ci := 12) (mc := 0) (ms := 0) dX2_run_4 ok_X7_openDay ⟨ml_X2_44, im_X7_openDay, sl_X7_openDay⟩ rfl (hR.kd (lvC h3 (by omega))) rfl (Nat.le_of_ble_eq_true rfl) (by simp) (by omega) (Nat.le_refl _) (Nat.le_refl _) rfl rfl (c_openDay hR h3 hC) ?_
  intro M hR9
  have hR := hR9.1
  have hP := hR9.2
  refine zs_sipush (v := 600) (n := 10) dX2_run_7 (by decide) rfl ?_
  refine zs_istore_n (n := 11) dX2_run_10 (by decide) rfl ?_
  refine zX.sub (L' := [(0, .ref (Λ 7)), (1, .int (nI (600 + 0)))]) ⟨rfl, rfl, trivial⟩ ?_
  refine zloop (n := 600) (X := fun j => ∀ M, zRq Z Λ S (gRun S j (gDay0 S)) M → zX Z l 7 mth_X2_run 11 [(0, .ref (Λ 7)), (1, .int (nI (600 + j)))] [] M 0 0 Q) (fun j hj ih => ?_) ?_ 0 (Nat.zero_le _) M ?_
  · intro M hR9
    have hR := hR9.1
    have hP := hR9.2
    refine zs_iload_n (n := 12) dX2_run_11 rfl rfl ?_
    refine zs_sipush (v := 1199) (n := 15) dX2_run_12 (by decide) rfl ?_
    refine zs_icmp_gt (tgt := 52) (n := 18) dX2_run_15 (by decide) rfl (fun h => absurd h (nI_nlt (b := 600 + j) (a := 1199) (by omega) (by omega))) (fun _ => ?_)
    refine zs_aload_n (n := 19) dX2_run_18 rfl rfl ?_
    refine zs_getr (b := (Λ 2)) (n := 22) dX2_run_19 gf_X2_9 (hR.kd (lvC h3 (by omega))) (hR.pt (lvC h3 (by omega)) rfl (by decide)) rfl ?_
    refine zc_V (n := 25) (As := []) (ci := 12) (mc := 0) (ms := 0) dX2_run_22 ok_X7_isOver ⟨ml_X2_49, im_X7_isOver, sl_X7_isOver⟩ rfl (hR.kd (lvC h3 (by omega))) rfl (Nat.le_of_ble_eq_true rfl) (by simp) (by omega) (Nat.le_refl _) (Nat.le_refl _) rfl rfl (c_isOver hR hP h3) ?_
    refine zs_if_ne (tgt := 52) (n := 28) dX2_run_25 (by decide) rfl (fun h25 => ?_) (fun h25 => ?_)
    · refine zs_aload_n (n := 53) dX2_run_52 rfl rfl ?_
      refine zs_iconst (v := 1) (n := 54) dX2_run_53 (by decide) rfl ?_
      refine zw_i (r := 7) (n := 57) dX2_run_54 pf_X2_run_33 hR (lvC h3 (by omega)) (hR.kd (lvC h3 (by omega))) ⟨by decide, by decide⟩ (by decide) rfl ?_
      intro M hR hv
      have hR : zRp Z Λ (wV S (u2 (gRun S j (gDay0 S)).1 7 228 (1 : Int32))) M := hR
      have hP : zPl Λ ((wV S (u2 (gRun S j (gDay0 S)).1 7 228 (1 : Int32))), (gRun S j (gDay0 S)).2.1, (gRun S j (gDay0 S)).2.2) M := zPl.of (T := (wV S (gRun S j (gDay0 S)).1, (gRun S j (gDay0 S)).2.1, (gRun S j (gDay0 S)).2.2)) hP hv rfl rfl (fun _ => rfl) (fun _ => rfl)
      refine zs_return dX2_run_57 rfl ?_
      refine hQ _ ?_
      unfold gDay
      first
      | exact hR
      | (rw [show gRun S 600 (gDay0 S) = (gRun S j (gDay0 S)) from by
            have := gRun_over (S := S) (t := gDay0 S) (j := j) (zb1.mp h25) (600 - j)
            rw [show j + (600 - j) = 600 from by omega] at this
            exact this]; exact hR)
    · refine zs_aload_n (n := 29) dX2_run_28 rfl rfl ?_
      refine zs_getr (b := (Λ 2)) (n := 32) dX2_run_29 gf_X2_9 (hR.kd (lvC h3 (by omega))) (hR.pt (lvC h3 (by omega)) rfl (by decide)) rfl ?_
      refine zs_iload_n (n := 33) dX2_run_32 rfl rfl ?_
      refine zg_V (n := 36) (As := [.int (nI (600 + j))]) (ci := 12) (mc := 0) (ms := 0) dX2_run_33 ok_X7_openMinute ⟨ml_X2_53, im_X7_openMinute, sl_X7_openMinute⟩ rfl (hR.kd (lvC h3 (by omega))) rfl (Nat.le_of_ble_eq_true rfl) (by simp) (by omega) (Nat.le_refl _) (Nat.le_refl _) rfl rfl (c_openMinute hR hP h3) ?_
      intro M hR9
      have hR := hR9.1
      have hP := hR9.2
      refine zs_aload_n (n := 37) dX2_run_36 rfl rfl ?_
      refine zs_iload_n (n := 38) dX2_run_37 rfl rfl ?_
      refine zg_V (n := 41) (As := [.int (nI (600 + j))]) (ci := 7) (mc := 0) (ms := 0) dX2_run_38 ok_X2_payVisits ⟨ml_X2_57, im_X2_payVisits, sl_X2_payVisits⟩ rfl (hR.kd (lvC h3 (by omega))) rfl (Nat.le_of_ble_eq_true rfl) (by simp) (by omega) (Nat.le_refl _) (Nat.le_refl _) rfl rfl (c_payVisits hR hP h3) ?_
      intro M hR9
      have hR := hR9.1
      have hP := hR9.2
      refine zs_aload_n (n := 42) dX2_run_41 rfl rfl ?_
      refine zs_iload_n (n := 43) dX2_run_42 rfl rfl ?_
      refine zg_V (n := 46) (As := [.int (nI (600 + j))]) (ci := 7) (mc := 0) (ms := 0) dX2_run_43 ok_X2_playMinute ⟨ml_X2_60, im_X2_playMinute, sl_X2_playMinute⟩ rfl (hR.kd (lvC h3 (by omega))) rfl (Nat.le_of_ble_eq_true rfl) (by simp) (by omega) (Nat.le_refl _) (Nat.le_refl _) rfl rfl (c_playMinute hR hP h3 (by omega) (by omega)) ?_
      intro M hR9
      have hR := hR9.1
      have hP := hR9.2
      refine zs_iinc (v := (nI ((600 + j) + 1))) (n := 49) dX2_run_46 rfl (nI_1 _) (by decide) rfl ?_
      refine zs_goto (tgt := 11) dX2_run_49 (by decide) ?_
      refine zX.sub (L' := [(0, .ref (Λ 7)), (1, .int (nI (600 + (j + 1))))]) ⟨rfl, rfl, trivial⟩ ?_
      refine ih M ?_
      rw [show gRun S (j + 1) (gDay0 S) = (if gAllOver S (gRun S j (gDay0 S)) = true then (gRun S j (gDay0 S)) else gMinute S (600 + j) (gRun S j (gDay0 S))) from rfl, if_neg (by rw [zb0.mp h25]; decide)]
      exact ⟨hR, hP⟩
  · intro M hR9
    have hR := hR9.1
    have hP := hR9.2
    refine zs_iload_n (n := 12) dX2_run_11 rfl rfl ?_
    refine zs_sipush (v := 1199) (n := 15) dX2_run_12 (by decide) rfl ?_
    refine zs_icmp_gt (tgt := 52) (n := 18) dX2_run_15 (by decide) rfl (fun _ => ?_) (fun h => absurd (nI_lt (a := 1199) (b := 600 + 600) (by omega) (by omega)) h)
    refine zs_aload_n (n := 53) dX2_run_52 rfl rfl ?_
    refine zs_iconst (v := 1) (n := 54) dX2_run_53 (by decide) rfl ?_
    refine zw_i (r := 7) (n := 57) dX2_run_54 pf_X2_run_33 hR (lvC h3 (by omega)) (hR.kd (lvC h3 (by omega))) ⟨by decide, by decide⟩ (by decide) rfl ?_
    intro M hR hv
    have hR : zRp Z Λ (wV S (u2 (gRun S 600 (gDay0 S)).1 7 228 (1 : Int32))) M := hR
    have hP : zPl Λ ((wV S (u2 (gRun S 600 (gDay0 S)).1 7 228 (1 : Int32))), (gRun S 600 (gDay0 S)).2.1, (gRun S 600 (gDay0 S)).2.2) M := zPl.of (T := (wV S (gRun S 600 (gDay0 S)).1, (gRun S 600 (gDay0 S)).2.1, (gRun S 600 (gDay0 S)).2.2)) hP hv rfl rfl (fun _ => rfl) (fun _ => rfl)
    refine zs_return dX2_run_57 rfl ?_
    refine hQ _ ?_
    unfold gDay
    first
    | exact hR
    | (rw [show gRun S 600 (gDay0 S) = (gRun S j (gDay0 S)) from by
          have := gRun_over (S := S) (t := gDay0 S) (j := j) (zb1.mp h25) (600 - j)
          rw [show j + (600 - j) = 600 from by omega] at this
          exact this]; exact hR)
  · exact ⟨hR, hP⟩
end ZPLAY3
