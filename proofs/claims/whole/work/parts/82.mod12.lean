/-! THE MODEL PLAYS: who goes on -/
section ZMOD12
variable {Z : zPar} {l : Launch} {Λ : Nat → Nat} {S : zSt} {M M0 : zMem} {d d' : Nat} {mm : zMeth} {pc n nc ns ix nc1 ns1 : Nat} {L : List (Nat × Value)} {st : List Value} {Q : zO → zMem → Prop}
def fStp0 (S : zSt) (i t a m : Nat) : Int32 := fPassM S i m * (10 * sV S (1140 + a) 546 + (if sV S t 611 < 40 then sV S t 611 else 40)) / 100
def fStpM (S : zSt) (i t a m : Nat) (w dr : Bool) : Int32 := if w = true then 0 else if dr = true then fStp0 S i t a m / 2 else fStp0 S i t a m
def fGoX (S : zSt) (t : Nat) (w dr : Bool) : Int32 := sV S t 611 * (sV S 1001 684 + (if w = true then 50 else 0) + (if dr = true then 10 else 0)) / 100
def fStdM (S : zSt) (i t a m : Nat) (w dr : Bool) : Int32 := sV S t 611 + (fStpM S i t a m w dr - (if sV S t 611 < fGoX S t w dr then sV S t 611 else fGoX S t w dr))
def fGoM (S : zSt) (i t a m : Nat) (w dr : Bool) : Nat → Nat → Int32 := u2 (u2 (u2 (sV S) t 611 (fStdM S i t a m w dr)) t 612 (if sV S t 612 < fStdM S i t a m w dr then fStdM S i t a m w dr else sV S t 612)) t 614 (sV S t 614 + (if dr = true then 1 else 0))
theorem k_go00 {i k a m : Nat} (hR : zRp Z Λ S M) (h4 : sc S 4 = 1) (hi : i < sc S 1000) (hk : k < sc S (1010 + i)) (ha : a < sc S 1001) (h6 : 600 ≤ m) (h12 : m < 1200)
    (kk : ∀ M', zRp Z Λ (wV S (fGoM S i (1160 + 8 * i + k) a m false false)) M' → zX Z l 4 mth_X16_goesOn 184 [(0, .ref (Λ 1001)), (1, .ref (Λ (1100 + i))), (2, .ref (Λ (1160 + 8 * i + k))), (4, .int (nI m)), (5, .ref (Λ (1140 + a)))] [] M' nc ns Q) :
    zX Z l 4 mth_X16_goesOn 37 [(0, .ref (Λ 1001)), (1, .ref (Λ (1100 + i))), (2, .ref (Λ (1160 + 8 * i + k))), (3, .int 0), (4, .int (nI m)), (5, .ref (Λ (1140 + a)))] [.int 0] M nc ns Q := by
  refine zs_istore (n := 39) dX16_goesOn_37 (by decide) rfl ?_
  refine zs_aload_n (n := 40) dX16_goesOn_39 rfl rfl ?_
  refine zs_iload (n := 42) dX16_goesOn_40 rfl rfl ?_
  refine zc_V (n := 45) (As := [.int (nI m)]) (ci := 18) (mc := 0) (ms := 0) dX16_goesOn_42 ok_X13_passers ⟨ml_X16_104, im_X13_passers, sl_X13_passers⟩ rfl (hR.kP' hi) rfl (Nat.le_of_ble_eq_true rfl) (by simp) (by omega) (Nat.le_refl _) (Nat.le_refl _) rfl rfl (k_passers hR h4 hi (by omega) (by omega)) ?_
  refine zs_bipush (v := 10) (n := 47) dX16_goesOn_45 (by decide) rfl ?_
  refine zs_aload (n := 49) dX16_goesOn_47 rfl rfl ?_
  refine zs_getv (x := (sV S (1140 + a) 546)) (n := 52) dX16_goesOn_49 gf_X16_260 (hR.kA' ha) (hR.iv (lvA' ha) (by decide) (by decide)) rfl ?_
  refine zs_imul (n := 53) dX16_goesOn_52 rfl ?_
  refine zs_bipush (v := 40) (n := 55) dX16_goesOn_53 (by decide) rfl ?_
  refine zs_aload_n (n := 56) dX16_goesOn_55 rfl rfl ?_
  refine zs_getv (x := (sV S (1160 + 8 * i + k) 611)) (n := 59) dX16_goesOn_56 gf_X16_257 (hR.kK' hi hk) (hR.iv (lvK' hi hk) (by decide) (by decide)) rfl ?_
  refine zs_min (n := 62) dX16_goesOn_59 ⟨⟨tw_8 _ (List.mem_of_getElem? (i := 54) (by decide +kernel)), by decide +kernel⟩, w_i1, w_m2, w_i3⟩ (by simp) rfl ?_
  refine zs_iadd (n := 63) dX16_goesOn_62 rfl ?_
  refine zs_imul (n := 64) dX16_goesOn_63 rfl ?_
  refine zs_bipush (v := 100) (n := 66) dX16_goesOn_64 (by decide) rfl ?_
  refine zs_idiv (n := 67) dX16_goesOn_66 (by decide) rfl ?_
  refine zs_istore (n := 69) dX16_goesOn_67 (by decide) rfl ?_
  refine zs_iload (n := 71) dX16_goesOn_69 rfl rfl ?_
  refine zs_if_eq (tgt := 78) (n := 74) dX16_goesOn_71 (by decide) rfl (fun _ => ?_) (fun h => absurd (by decide) h)
  refine zs_iload_n (n := 79) dX16_goesOn_78 rfl rfl ?_
  refine zs_if_eq (tgt := 89) (n := 82) dX16_goesOn_79 (by decide) rfl (fun _ => ?_) (fun h => absurd (by decide) h)
  refine zs_iload (n := 91) dX16_goesOn_89 rfl rfl ?_
  rw [show (((fPassM S i m) * (((10 : Int32) * (sV S (1140 + a) 546)) + (if (sV S (1160 + 8 * i + k) 611) < (40 : Int32) then (sV S (1160 + 8 * i + k) 611) else (40 : Int32)))) / (100 : Int32)) = fStpM S i (1160 + 8 * i + k) a m false false from rfl]
  refine zs_istore (n := 93) dX16_goesOn_91 (by decide) rfl ?_
  refine zs_aload_n (n := 94) dX16_goesOn_93 rfl rfl ?_
  refine zs_getv (x := (sV S (1160 + 8 * i + k) 611)) (n := 97) dX16_goesOn_94 gf_X16_257 (hR.kK' hi hk) (hR.iv (lvK' hi hk) (by decide) (by decide)) rfl ?_
  refine zs_aload_n (n := 98) dX16_goesOn_97 rfl rfl ?_
  refine zs_getv (x := (sV S 1001 684)) (n := 101) dX16_goesOn_98 gf_X16_194 (hR.kd (lvM h4 (by omega))) (hR.iv (lvM h4 (by omega)) (by decide) (by decide)) rfl ?_
  refine zs_iload (n := 103) dX16_goesOn_101 rfl rfl ?_
  refine zs_if_eq (tgt := 111) (n := 106) dX16_goesOn_103 (by decide) rfl (fun _ => ?_) (fun h => absurd (by decide) h)
  refine zs_iconst (v := 0) (n := 112) dX16_goesOn_111 (by decide) rfl ?_
  refine zs_iadd (n := 113) dX16_goesOn_112 rfl ?_
  refine zs_iload_n (n := 114) dX16_goesOn_113 rfl rfl ?_
  refine zs_if_eq (tgt := 122) (n := 117) dX16_goesOn_114 (by decide) rfl (fun _ => ?_) (fun h => absurd (by decide) h)
  refine zs_iconst (v := 0) (n := 123) dX16_goesOn_122 (by decide) rfl ?_
  refine zs_iadd (n := 124) dX16_goesOn_123 rfl ?_
  refine zs_imul (n := 125) dX16_goesOn_124 rfl ?_
  refine zs_bipush (v := 100) (n := 127) dX16_goesOn_125 (by decide) rfl ?_
  refine zs_idiv (n := 128) dX16_goesOn_127 (by decide) rfl ?_
  rw [show (((sV S (1160 + 8 * i + k) 611) * (((sV S 1001 684) + (0 : Int32)) + (0 : Int32))) / (100 : Int32)) = fGoX S (1160 + 8 * i + k) false false from rfl]
  refine zs_istore (n := 130) dX16_goesOn_128 (by decide) rfl ?_
  refine zs_aload_n (n := 131) dX16_goesOn_130 rfl rfl ?_
  refine zs_dup (n := 132) dX16_goesOn_131 rfl rfl ?_
  refine zs_getv (x := (sV S (1160 + 8 * i + k) 611)) (n := 135) dX16_goesOn_132 gf_X16_257 (hR.kK' hi hk) (hR.iv (lvK' hi hk) (by decide) (by decide)) rfl ?_
  refine zs_iload (n := 137) dX16_goesOn_135 rfl rfl ?_
  refine zs_iload (n := 139) dX16_goesOn_137 rfl rfl ?_
  refine zs_aload_n (n := 140) dX16_goesOn_139 rfl rfl ?_
  refine zs_getv (x := (sV S (1160 + 8 * i + k) 611)) (n := 143) dX16_goesOn_140 gf_X16_257 (hR.kK' hi hk) (hR.iv (lvK' hi hk) (by decide) (by decide)) rfl ?_
  refine zs_min (n := 146) dX16_goesOn_143 ⟨⟨tw_8 _ (List.mem_of_getElem? (i := 54) (by decide +kernel)), by decide +kernel⟩, w_i1, w_m2, w_i3⟩ (by simp) rfl ?_
  refine zs_isub (n := 147) dX16_goesOn_146 rfl ?_
  refine zs_iadd (n := 148) dX16_goesOn_147 rfl ?_
  rw [show ((sV S (1160 + 8 * i + k) 611) + ((fStpM S i (1160 + 8 * i + k) a m false false) - (if (sV S (1160 + 8 * i + k) 611) < (fGoX S (1160 + 8 * i + k) false false) then (sV S (1160 + 8 * i + k) 611) else (fGoX S (1160 + 8 * i + k) false false)))) = (fStdM S i (1160 + 8 * i + k) a m false false) from rfl]
  refine zw_i (r := (1160 + 8 * i + k)) (n := 151) dX16_goesOn_148 pf_X16_goesOn_257 hR (lvK' hi hk) (hR.kK' hi hk) ⟨rfl, rfl⟩ (by decide) rfl ?_
  intro M hR hv
  refine zs_aload_n (n := 152) dX16_goesOn_151 rfl rfl ?_
  refine zs_aload_n (n := 153) dX16_goesOn_152 rfl rfl ?_
  refine zs_getv (x := (sV S (1160 + 8 * i + k) 612)) (n := 156) dX16_goesOn_153 gf_X16_277 (hR.kK' hi hk) (hR.iv (lvK' hi hk) (by decide) (by decide)) rfl ?_
  refine zs_aload_n (n := 157) dX16_goesOn_156 rfl rfl ?_
  refine zs_getv (x := ((u2 (sV S) (1160 + 8 * i + k) 611 (fStdM S i (1160 + 8 * i + k) a m false false)) (1160 + 8 * i + k) 611)) (n := 160) dX16_goesOn_157 gf_X16_257 (hR.kK' hi hk) (hR.iv (lvK' hi hk) (by decide) (by decide)) rfl ?_
  rw [show ((u2 (sV S) (1160 + 8 * i + k) 611 (fStdM S i (1160 + 8 * i + k) a m false false)) (1160 + 8 * i + k) 611) = (fStdM S i (1160 + 8 * i + k) a m false false) from u2_at]
  refine zs_max (n := 163) dX16_goesOn_160 ⟨⟨tw_8 _ (List.mem_of_getElem? (i := 55) (by decide +kernel)), by decide +kernel⟩, w_m1, w_m2, w_m3⟩ (by simp) rfl ?_
  refine zw_i (r := (1160 + 8 * i + k)) (n := 166) dX16_goesOn_163 pf_X16_goesOn_277 hR (lvK' hi hk) (hR.kK' hi hk) ⟨rfl, rfl⟩ (by decide) rfl ?_
  intro M hR hv
  refine zs_aload_n (n := 167) dX16_goesOn_166 rfl rfl ?_
  refine zs_dup (n := 168) dX16_goesOn_167 rfl rfl ?_
  refine zs_getv (x := (sV S (1160 + 8 * i + k) 614)) (n := 171) dX16_goesOn_168 gf_X16_283 (hR.kK' hi hk) (hR.iv (lvK' hi hk) (by decide) (by decide)) rfl ?_
  refine zs_iload_n (n := 172) dX16_goesOn_171 rfl rfl ?_
  refine zs_if_eq (tgt := 179) (n := 175) dX16_goesOn_172 (by decide) rfl (fun _ => ?_) (fun h => absurd (by decide) h)
  refine zs_iconst (v := 0) (n := 180) dX16_goesOn_179 (by decide) rfl ?_
  refine zs_iadd (n := 181) dX16_goesOn_180 rfl ?_
  refine zw_i (r := (1160 + 8 * i + k)) (n := 184) dX16_goesOn_181 pf_X16_goesOn_283 hR (lvK' hi hk) (hR.kK' hi hk) ⟨rfl, rfl⟩ (by decide) rfl ?_
  intro M hR hv
  refine zX.sub (L' := [(0, .ref (Λ 1001)), (1, .ref (Λ (1100 + i))), (2, .ref (Λ (1160 + 8 * i + k))), (4, .int (nI m)), (5, .ref (Λ (1140 + a)))]) ⟨rfl, rfl, rfl, rfl, rfl, trivial⟩ ?_
  exact kk M hR
theorem k_go01 {i k a m : Nat} (hR : zRp Z Λ S M) (h4 : sc S 4 = 1) (hi : i < sc S 1000) (hk : k < sc S (1010 + i)) (ha : a < sc S 1001) (h6 : 600 ≤ m) (h12 : m < 1200)
    (kk : ∀ M', zRp Z Λ (wV S (fGoM S i (1160 + 8 * i + k) a m false true)) M' → zX Z l 4 mth_X16_goesOn 184 [(0, .ref (Λ 1001)), (1, .ref (Λ (1100 + i))), (2, .ref (Λ (1160 + 8 * i + k))), (4, .int (nI m)), (5, .ref (Λ (1140 + a)))] [] M' nc ns Q) :
    zX Z l 4 mth_X16_goesOn 37 [(0, .ref (Λ 1001)), (1, .ref (Λ (1100 + i))), (2, .ref (Λ (1160 + 8 * i + k))), (3, .int 1), (4, .int (nI m)), (5, .ref (Λ (1140 + a)))] [.int 0] M nc ns Q := by
  refine zs_istore (n := 39) dX16_goesOn_37 (by decide) rfl ?_
  refine zs_aload_n (n := 40) dX16_goesOn_39 rfl rfl ?_
  refine zs_iload (n := 42) dX16_goesOn_40 rfl rfl ?_
  refine zc_V (n := 45) (As := [.int (nI m)]) (ci := 18) (mc := 0) (ms := 0) dX16_goesOn_42 ok_X13_passers ⟨ml_X16_104, im_X13_passers, sl_X13_passers⟩ rfl (hR.kP' hi) rfl (Nat.le_of_ble_eq_true rfl) (by simp) (by omega) (Nat.le_refl _) (Nat.le_refl _) rfl rfl (k_passers hR h4 hi (by omega) (by omega)) ?_
  refine zs_bipush (v := 10) (n := 47) dX16_goesOn_45 (by decide) rfl ?_
  refine zs_aload (n := 49) dX16_goesOn_47 rfl rfl ?_
  refine zs_getv (x := (sV S (1140 + a) 546)) (n := 52) dX16_goesOn_49 gf_X16_260 (hR.kA' ha) (hR.iv (lvA' ha) (by decide) (by decide)) rfl ?_
  refine zs_imul (n := 53) dX16_goesOn_52 rfl ?_
  refine zs_bipush (v := 40) (n := 55) dX16_goesOn_53 (by decide) rfl ?_
  refine zs_aload_n (n := 56) dX16_goesOn_55 rfl rfl ?_
  refine zs_getv (x := (sV S (1160 + 8 * i + k) 611)) (n := 59) dX16_goesOn_56 gf_X16_257 (hR.kK' hi hk) (hR.iv (lvK' hi hk) (by decide) (by decide)) rfl ?_
  refine zs_min (n := 62) dX16_goesOn_59 ⟨⟨tw_8 _ (List.mem_of_getElem? (i := 54) (by decide +kernel)), by decide +kernel⟩, w_i1, w_m2, w_i3⟩ (by simp) rfl ?_
  refine zs_iadd (n := 63) dX16_goesOn_62 rfl ?_
  refine zs_imul (n := 64) dX16_goesOn_63 rfl ?_
  refine zs_bipush (v := 100) (n := 66) dX16_goesOn_64 (by decide) rfl ?_
  refine zs_idiv (n := 67) dX16_goesOn_66 (by decide) rfl ?_
  refine zs_istore (n := 69) dX16_goesOn_67 (by decide) rfl ?_
  refine zs_iload (n := 71) dX16_goesOn_69 rfl rfl ?_
  refine zs_if_eq (tgt := 78) (n := 74) dX16_goesOn_71 (by decide) rfl (fun _ => ?_) (fun h => absurd (by decide) h)
  refine zs_iload_n (n := 79) dX16_goesOn_78 rfl rfl ?_
  refine zs_if_eq (tgt := 89) (n := 82) dX16_goesOn_79 (by decide) rfl (fun h => absurd h (by decide)) (fun _ => ?_)
  refine zs_iload (n := 84) dX16_goesOn_82 rfl rfl ?_
  refine zs_iconst (v := 2) (n := 85) dX16_goesOn_84 (by decide) rfl ?_
  refine zs_idiv (n := 86) dX16_goesOn_85 (by decide) rfl ?_
  refine zs_goto (tgt := 91) dX16_goesOn_86 (by decide) ?_
  rw [show ((((fPassM S i m) * (((10 : Int32) * (sV S (1140 + a) 546)) + (if (sV S (1160 + 8 * i + k) 611) < (40 : Int32) then (sV S (1160 + 8 * i + k) 611) else (40 : Int32)))) / (100 : Int32)) / (2 : Int32)) = fStpM S i (1160 + 8 * i + k) a m false true from rfl]
  refine zs_istore (n := 93) dX16_goesOn_91 (by decide) rfl ?_
  refine zs_aload_n (n := 94) dX16_goesOn_93 rfl rfl ?_
  refine zs_getv (x := (sV S (1160 + 8 * i + k) 611)) (n := 97) dX16_goesOn_94 gf_X16_257 (hR.kK' hi hk) (hR.iv (lvK' hi hk) (by decide) (by decide)) rfl ?_
  refine zs_aload_n (n := 98) dX16_goesOn_97 rfl rfl ?_
  refine zs_getv (x := (sV S 1001 684)) (n := 101) dX16_goesOn_98 gf_X16_194 (hR.kd (lvM h4 (by omega))) (hR.iv (lvM h4 (by omega)) (by decide) (by decide)) rfl ?_
  refine zs_iload (n := 103) dX16_goesOn_101 rfl rfl ?_
  refine zs_if_eq (tgt := 111) (n := 106) dX16_goesOn_103 (by decide) rfl (fun _ => ?_) (fun h => absurd (by decide) h)
  refine zs_iconst (v := 0) (n := 112) dX16_goesOn_111 (by decide) rfl ?_
  refine zs_iadd (n := 113) dX16_goesOn_112 rfl ?_
  refine zs_iload_n (n := 114) dX16_goesOn_113 rfl rfl ?_
  refine zs_if_eq (tgt := 122) (n := 117) dX16_goesOn_114 (by decide) rfl (fun h => absurd h (by decide)) (fun _ => ?_)
  refine zs_bipush (v := 10) (n := 119) dX16_goesOn_117 (by decide) rfl ?_
  refine zs_goto (tgt := 123) dX16_goesOn_119 (by decide) ?_
  refine zs_iadd (n := 124) dX16_goesOn_123 rfl ?_
  refine zs_imul (n := 125) dX16_goesOn_124 rfl ?_
  refine zs_bipush (v := 100) (n := 127) dX16_goesOn_125 (by decide) rfl ?_
  refine zs_idiv (n := 128) dX16_goesOn_127 (by decide) rfl ?_
  rw [show (((sV S (1160 + 8 * i + k) 611) * (((sV S 1001 684) + (0 : Int32)) + (10 : Int32))) / (100 : Int32)) = fGoX S (1160 + 8 * i + k) false true from rfl]
  refine zs_istore (n := 130) dX16_goesOn_128 (by decide) rfl ?_
  refine zs_aload_n (n := 131) dX16_goesOn_130 rfl rfl ?_
  refine zs_dup (n := 132) dX16_goesOn_131 rfl rfl ?_
  refine zs_getv (x := (sV S (1160 + 8 * i + k) 611)) (n := 135) dX16_goesOn_132 gf_X16_257 (hR.kK' hi hk) (hR.iv (lvK' hi hk) (by decide) (by decide)) rfl ?_
  refine zs_iload (n := 137) dX16_goesOn_135 rfl rfl ?_
  refine zs_iload (n := 139) dX16_goesOn_137 rfl rfl ?_
  refine zs_aload_n (n := 140) dX16_goesOn_139 rfl rfl ?_
  refine zs_getv (x := (sV S (1160 + 8 * i + k) 611)) (n := 143) dX16_goesOn_140 gf_X16_257 (hR.kK' hi hk) (hR.iv (lvK' hi hk) (by decide) (by decide)) rfl ?_
  refine zs_min (n := 146) dX16_goesOn_143 ⟨⟨tw_8 _ (List.mem_of_getElem? (i := 54) (by decide +kernel)), by decide +kernel⟩, w_i1, w_m2, w_i3⟩ (by simp) rfl ?_
  refine zs_isub (n := 147) dX16_goesOn_146 rfl ?_
  refine zs_iadd (n := 148) dX16_goesOn_147 rfl ?_
  rw [show ((sV S (1160 + 8 * i + k) 611) + ((fStpM S i (1160 + 8 * i + k) a m false true) - (if (sV S (1160 + 8 * i + k) 611) < (fGoX S (1160 + 8 * i + k) false true) then (sV S (1160 + 8 * i + k) 611) else (fGoX S (1160 + 8 * i + k) false true)))) = (fStdM S i (1160 + 8 * i + k) a m false true) from rfl]
  refine zw_i (r := (1160 + 8 * i + k)) (n := 151) dX16_goesOn_148 pf_X16_goesOn_257 hR (lvK' hi hk) (hR.kK' hi hk) ⟨rfl, rfl⟩ (by decide) rfl ?_
  intro M hR hv
  refine zs_aload_n (n := 152) dX16_goesOn_151 rfl rfl ?_
  refine zs_aload_n (n := 153) dX16_goesOn_152 rfl rfl ?_
  refine zs_getv (x := (sV S (1160 + 8 * i + k) 612)) (n := 156) dX16_goesOn_153 gf_X16_277 (hR.kK' hi hk) (hR.iv (lvK' hi hk) (by decide) (by decide)) rfl ?_
  refine zs_aload_n (n := 157) dX16_goesOn_156 rfl rfl ?_
  refine zs_getv (x := ((u2 (sV S) (1160 + 8 * i + k) 611 (fStdM S i (1160 + 8 * i + k) a m false true)) (1160 + 8 * i + k) 611)) (n := 160) dX16_goesOn_157 gf_X16_257 (hR.kK' hi hk) (hR.iv (lvK' hi hk) (by decide) (by decide)) rfl ?_
  rw [show ((u2 (sV S) (1160 + 8 * i + k) 611 (fStdM S i (1160 + 8 * i + k) a m false true)) (1160 + 8 * i + k) 611) = (fStdM S i (1160 + 8 * i + k) a m false true) from u2_at]
  refine zs_max (n := 163) dX16_goesOn_160 ⟨⟨tw_8 _ (List.mem_of_getElem? (i := 55) (by decide +kernel)), by decide +kernel⟩, w_m1, w_m2, w_m3⟩ (by simp) rfl ?_
  refine zw_i (r := (1160 + 8 * i + k)) (n := 166) dX16_goesOn_163 pf_X16_goesOn_277 hR (lvK' hi hk) (hR.kK' hi hk) ⟨rfl, rfl⟩ (by decide) rfl ?_
  intro M hR hv
  refine zs_aload_n (n := 167) dX16_goesOn_166 rfl rfl ?_
  refine zs_dup (n := 168) dX16_goesOn_167 rfl rfl ?_
  refine zs_getv (x := (sV S (1160 + 8 * i + k) 614)) (n := 171) dX16_goesOn_168 gf_X16_283 (hR.kK' hi hk) (hR.iv (lvK' hi hk) (by decide) (by decide)) rfl ?_
  refine zs_iload_n (n := 172) dX16_goesOn_171 rfl rfl ?_
  refine zs_if_eq (tgt := 179) (n := 175) dX16_goesOn_172 (by decide) rfl (fun h => absurd h (by decide)) (fun _ => ?_)
  refine zs_iconst (v := 1) (n := 176) dX16_goesOn_175 (by decide) rfl ?_
  refine zs_goto (tgt := 180) dX16_goesOn_176 (by decide) ?_
  refine zs_iadd (n := 181) dX16_goesOn_180 rfl ?_
  refine zw_i (r := (1160 + 8 * i + k)) (n := 184) dX16_goesOn_181 pf_X16_goesOn_283 hR (lvK' hi hk) (hR.kK' hi hk) ⟨rfl, rfl⟩ (by decide) rfl ?_
  intro M hR hv
  refine zX.sub (L' := [(0, .ref (Λ 1001)), (1, .ref (Λ (1100 + i))), (2, .ref (Λ (1160 + 8 * i + k))), (4, .int (nI m)), (5, .ref (Λ (1140 + a)))]) ⟨rfl, rfl, rfl, rfl, rfl, trivial⟩ ?_
  exact kk M hR
theorem k_go10 {i k a m : Nat} (hR : zRp Z Λ S M) (h4 : sc S 4 = 1) (hi : i < sc S 1000) (hk : k < sc S (1010 + i)) (ha : a < sc S 1001) (h6 : 600 ≤ m) (h12 : m < 1200)
    (kk : ∀ M', zRp Z Λ (wV S (fGoM S i (1160 + 8 * i + k) a m true false)) M' → zX Z l 4 mth_X16_goesOn 184 [(0, .ref (Λ 1001)), (1, .ref (Λ (1100 + i))), (2, .ref (Λ (1160 + 8 * i + k))), (4, .int (nI m)), (5, .ref (Λ (1140 + a)))] [] M' nc ns Q) :
    zX Z l 4 mth_X16_goesOn 37 [(0, .ref (Λ 1001)), (1, .ref (Λ (1100 + i))), (2, .ref (Λ (1160 + 8 * i + k))), (3, .int 0), (4, .int (nI m)), (5, .ref (Λ (1140 + a)))] [.int 1] M nc ns Q := by
  refine zs_istore (n := 39) dX16_goesOn_37 (by decide) rfl ?_
  refine zs_aload_n (n := 40) dX16_goesOn_39 rfl rfl ?_
  refine zs_iload (n := 42) dX16_goesOn_40 rfl rfl ?_
  refine zc_V (n := 45) (As := [.int (nI m)]) (ci := 18) (mc := 0) (ms := 0) dX16_goesOn_42 ok_X13_passers ⟨ml_X16_104, im_X13_passers, sl_X13_passers⟩ rfl (hR.kP' hi) rfl (Nat.le_of_ble_eq_true rfl) (by simp) (by omega) (Nat.le_refl _) (Nat.le_refl _) rfl rfl (k_passers hR h4 hi (by omega) (by omega)) ?_
  refine zs_bipush (v := 10) (n := 47) dX16_goesOn_45 (by decide) rfl ?_
  refine zs_aload (n := 49) dX16_goesOn_47 rfl rfl ?_
  refine zs_getv (x := (sV S (1140 + a) 546)) (n := 52) dX16_goesOn_49 gf_X16_260 (hR.kA' ha) (hR.iv (lvA' ha) (by decide) (by decide)) rfl ?_
  refine zs_imul (n := 53) dX16_goesOn_52 rfl ?_
  refine zs_bipush (v := 40) (n := 55) dX16_goesOn_53 (by decide) rfl ?_
  refine zs_aload_n (n := 56) dX16_goesOn_55 rfl rfl ?_
  refine zs_getv (x := (sV S (1160 + 8 * i + k) 611)) (n := 59) dX16_goesOn_56 gf_X16_257 (hR.kK' hi hk) (hR.iv (lvK' hi hk) (by decide) (by decide)) rfl ?_
  refine zs_min (n := 62) dX16_goesOn_59 ⟨⟨tw_8 _ (List.mem_of_getElem? (i := 54) (by decide +kernel)), by decide +kernel⟩, w_i1, w_m2, w_i3⟩ (by simp) rfl ?_
  refine zs_iadd (n := 63) dX16_goesOn_62 rfl ?_
  refine zs_imul (n := 64) dX16_goesOn_63 rfl ?_
  refine zs_bipush (v := 100) (n := 66) dX16_goesOn_64 (by decide) rfl ?_
  refine zs_idiv (n := 67) dX16_goesOn_66 (by decide) rfl ?_
  refine zs_istore (n := 69) dX16_goesOn_67 (by decide) rfl ?_
  refine zs_iload (n := 71) dX16_goesOn_69 rfl rfl ?_
  refine zs_if_eq (tgt := 78) (n := 74) dX16_goesOn_71 (by decide) rfl (fun h => absurd h (by decide)) (fun _ => ?_)
  refine zs_iconst (v := 0) (n := 75) dX16_goesOn_74 (by decide) rfl ?_
  refine zs_goto (tgt := 91) dX16_goesOn_75 (by decide) ?_
  refine zs_istore (n := 93) dX16_goesOn_91 (by decide) rfl ?_
  refine zs_aload_n (n := 94) dX16_goesOn_93 rfl rfl ?_
  refine zs_getv (x := (sV S (1160 + 8 * i + k) 611)) (n := 97) dX16_goesOn_94 gf_X16_257 (hR.kK' hi hk) (hR.iv (lvK' hi hk) (by decide) (by decide)) rfl ?_
  refine zs_aload_n (n := 98) dX16_goesOn_97 rfl rfl ?_
  refine zs_getv (x := (sV S 1001 684)) (n := 101) dX16_goesOn_98 gf_X16_194 (hR.kd (lvM h4 (by omega))) (hR.iv (lvM h4 (by omega)) (by decide) (by decide)) rfl ?_
  refine zs_iload (n := 103) dX16_goesOn_101 rfl rfl ?_
  refine zs_if_eq (tgt := 111) (n := 106) dX16_goesOn_103 (by decide) rfl (fun h => absurd h (by decide)) (fun _ => ?_)
  refine zs_bipush (v := 50) (n := 108) dX16_goesOn_106 (by decide) rfl ?_
  refine zs_goto (tgt := 112) dX16_goesOn_108 (by decide) ?_
  refine zs_iadd (n := 113) dX16_goesOn_112 rfl ?_
  refine zs_iload_n (n := 114) dX16_goesOn_113 rfl rfl ?_
  refine zs_if_eq (tgt := 122) (n := 117) dX16_goesOn_114 (by decide) rfl (fun _ => ?_) (fun h => absurd (by decide) h)
  refine zs_iconst (v := 0) (n := 123) dX16_goesOn_122 (by decide) rfl ?_
  refine zs_iadd (n := 124) dX16_goesOn_123 rfl ?_
  refine zs_imul (n := 125) dX16_goesOn_124 rfl ?_
  refine zs_bipush (v := 100) (n := 127) dX16_goesOn_125 (by decide) rfl ?_
  refine zs_idiv (n := 128) dX16_goesOn_127 (by decide) rfl ?_
  rw [show (((sV S (1160 + 8 * i + k) 611) * (((sV S 1001 684) + (50 : Int32)) + (0 : Int32))) / (100 : Int32)) = fGoX S (1160 + 8 * i + k) true false from rfl]
  refine zs_istore (n := 130) dX16_goesOn_128 (by decide) rfl ?_
  refine zs_aload_n (n := 131) dX16_goesOn_130 rfl rfl ?_
  refine zs_dup (n := 132) dX16_goesOn_131 rfl rfl ?_
  refine zs_getv (x := (sV S (1160 + 8 * i + k) 611)) (n := 135) dX16_goesOn_132 gf_X16_257 (hR.kK' hi hk) (hR.iv (lvK' hi hk) (by decide) (by decide)) rfl ?_
  refine zs_iload (n := 137) dX16_goesOn_135 rfl rfl ?_
  refine zs_iload (n := 139) dX16_goesOn_137 rfl rfl ?_
  refine zs_aload_n (n := 140) dX16_goesOn_139 rfl rfl ?_
  refine zs_getv (x := (sV S (1160 + 8 * i + k) 611)) (n := 143) dX16_goesOn_140 gf_X16_257 (hR.kK' hi hk) (hR.iv (lvK' hi hk) (by decide) (by decide)) rfl ?_
  refine zs_min (n := 146) dX16_goesOn_143 ⟨⟨tw_8 _ (List.mem_of_getElem? (i := 54) (by decide +kernel)), by decide +kernel⟩, w_i1, w_m2, w_i3⟩ (by simp) rfl ?_
  refine zs_isub (n := 147) dX16_goesOn_146 rfl ?_
  refine zs_iadd (n := 148) dX16_goesOn_147 rfl ?_
  rw [show ((sV S (1160 + 8 * i + k) 611) + ((0 : Int32) - (if (sV S (1160 + 8 * i + k) 611) < (fGoX S (1160 + 8 * i + k) true false) then (sV S (1160 + 8 * i + k) 611) else (fGoX S (1160 + 8 * i + k) true false)))) = (fStdM S i (1160 + 8 * i + k) a m true false) from rfl]
  refine zw_i (r := (1160 + 8 * i + k)) (n := 151) dX16_goesOn_148 pf_X16_goesOn_257 hR (lvK' hi hk) (hR.kK' hi hk) ⟨rfl, rfl⟩ (by decide) rfl ?_
  intro M hR hv
  refine zs_aload_n (n := 152) dX16_goesOn_151 rfl rfl ?_
  refine zs_aload_n (n := 153) dX16_goesOn_152 rfl rfl ?_
  refine zs_getv (x := (sV S (1160 + 8 * i + k) 612)) (n := 156) dX16_goesOn_153 gf_X16_277 (hR.kK' hi hk) (hR.iv (lvK' hi hk) (by decide) (by decide)) rfl ?_
  refine zs_aload_n (n := 157) dX16_goesOn_156 rfl rfl ?_
  refine zs_getv (x := ((u2 (sV S) (1160 + 8 * i + k) 611 (fStdM S i (1160 + 8 * i + k) a m true false)) (1160 + 8 * i + k) 611)) (n := 160) dX16_goesOn_157 gf_X16_257 (hR.kK' hi hk) (hR.iv (lvK' hi hk) (by decide) (by decide)) rfl ?_
  rw [show ((u2 (sV S) (1160 + 8 * i + k) 611 (fStdM S i (1160 + 8 * i + k) a m true false)) (1160 + 8 * i + k) 611) = (fStdM S i (1160 + 8 * i + k) a m true false) from u2_at]
  refine zs_max (n := 163) dX16_goesOn_160 ⟨⟨tw_8 _ (List.mem_of_getElem? (i := 55) (by decide +kernel)), by decide +kernel⟩, w_m1, w_m2, w_m3⟩ (by simp) rfl ?_
  refine zw_i (r := (1160 + 8 * i + k)) (n := 166) dX16_goesOn_163 pf_X16_goesOn_277 hR (lvK' hi hk) (hR.kK' hi hk) ⟨rfl, rfl⟩ (by decide) rfl ?_
  intro M hR hv
  refine zs_aload_n (n := 167) dX16_goesOn_166 rfl rfl ?_
  refine zs_dup (n := 168) dX16_goesOn_167 rfl rfl ?_
  refine zs_getv (x := (sV S (1160 + 8 * i + k) 614)) (n := 171) dX16_goesOn_168 gf_X16_283 (hR.kK' hi hk) (hR.iv (lvK' hi hk) (by decide) (by decide)) rfl ?_
  refine zs_iload_n (n := 172) dX16_goesOn_171 rfl rfl ?_
  refine zs_if_eq (tgt := 179) (n := 175) dX16_goesOn_172 (by decide) rfl (fun _ => ?_) (fun h => absurd (by decide) h)
  refine zs_iconst (v := 0) (n := 180) dX16_goesOn_179 (by decide) rfl ?_
  refine zs_iadd (n := 181) dX16_goesOn_180 rfl ?_
  refine zw_i (r := (1160 + 8 * i + k)) (n := 184) dX16_goesOn_181 pf_X16_goesOn_283 hR (lvK' hi hk) (hR.kK' hi hk) ⟨rfl, rfl⟩ (by decide) rfl ?_
  intro M hR hv
  refine zX.sub (L' := [(0, .ref (Λ 1001)), (1, .ref (Λ (1100 + i))), (2, .ref (Λ (1160 + 8 * i + k))), (4, .int (nI m)), (5, .ref (Λ (1140 + a)))]) ⟨rfl, rfl, rfl, rfl, rfl, trivial⟩ ?_
  exact kk M hR
theorem k_go11 {i k a m : Nat} (hR : zRp Z Λ S M) (h4 : sc S 4 = 1) (hi : i < sc S 1000) (hk : k < sc S (1010 + i)) (ha : a < sc S 1001) (h6 : 600 ≤ m) (h12 : m < 1200)
    (kk : ∀ M', zRp Z Λ (wV S (fGoM S i (1160 + 8 * i + k) a m true true)) M' → zX Z l 4 mth_X16_goesOn 184 [(0, .ref (Λ 1001)), (1, .ref (Λ (1100 + i))), (2, .ref (Λ (1160 + 8 * i + k))), (4, .int (nI m)), (5, .ref (Λ (1140 + a)))] [] M' nc ns Q) :
    zX Z l 4 mth_X16_goesOn 37 [(0, .ref (Λ 1001)), (1, .ref (Λ (1100 + i))), (2, .ref (Λ (1160 + 8 * i + k))), (3, .int 1), (4, .int (nI m)), (5, .ref (Λ (1140 + a)))] [.int 1] M nc ns Q := by
  refine zs_istore (n := 39) dX16_goesOn_37 (by decide) rfl ?_
  refine zs_aload_n (n := 40) dX16_goesOn_39 rfl rfl ?_
  refine zs_iload (n := 42) dX16_goesOn_40 rfl rfl ?_
  refine zc_V (n := 45) (As := [.int (nI m)]) (ci := 18) (mc := 0) (ms := 0) dX16_goesOn_42 ok_X13_passers ⟨ml_X16_104, im_X13_passers, sl_X13_passers⟩ rfl (hR.kP' hi) rfl (Nat.le_of_ble_eq_true rfl) (by simp) (by omega) (Nat.le_refl _) (Nat.le_refl _) rfl rfl (k_passers hR h4 hi (by omega) (by omega)) ?_
  refine zs_bipush (v := 10) (n := 47) dX16_goesOn_45 (by decide) rfl ?_
  refine zs_aload (n := 49) dX16_goesOn_47 rfl rfl ?_
  refine zs_getv (x := (sV S (1140 + a) 546)) (n := 52) dX16_goesOn_49 gf_X16_260 (hR.kA' ha) (hR.iv (lvA' ha) (by decide) (by decide)) rfl ?_
  refine zs_imul (n := 53) dX16_goesOn_52 rfl ?_
  refine zs_bipush (v := 40) (n := 55) dX16_goesOn_53 (by decide) rfl ?_
  refine zs_aload_n (n := 56) dX16_goesOn_55 rfl rfl ?_
  refine zs_getv (x := (sV S (1160 + 8 * i + k) 611)) (n := 59) dX16_goesOn_56 gf_X16_257 (hR.kK' hi hk) (hR.iv (lvK' hi hk) (by decide) (by decide)) rfl ?_
  refine zs_min (n := 62) dX16_goesOn_59 ⟨⟨tw_8 _ (List.mem_of_getElem? (i := 54) (by decide +kernel)), by decide +kernel⟩, w_i1, w_m2, w_i3⟩ (by simp) rfl ?_
  refine zs_iadd (n := 63) dX16_goesOn_62 rfl ?_
  refine zs_imul (n := 64) dX16_goesOn_63 rfl ?_
  refine zs_bipush (v := 100) (n := 66) dX16_goesOn_64 (by decide) rfl ?_
  refine zs_idiv (n := 67) dX16_goesOn_66 (by decide) rfl ?_
  refine zs_istore (n := 69) dX16_goesOn_67 (by decide) rfl ?_
  refine zs_iload (n := 71) dX16_goesOn_69 rfl rfl ?_
  refine zs_if_eq (tgt := 78) (n := 74) dX16_goesOn_71 (by decide) rfl (fun h => absurd h (by decide)) (fun _ => ?_)
  refine zs_iconst (v := 0) (n := 75) dX16_goesOn_74 (by decide) rfl ?_
  refine zs_goto (tgt := 91) dX16_goesOn_75 (by decide) ?_
  refine zs_istore (n := 93) dX16_goesOn_91 (by decide) rfl ?_
  refine zs_aload_n (n := 94) dX16_goesOn_93 rfl rfl ?_
  refine zs_getv (x := (sV S (1160 + 8 * i + k) 611)) (n := 97) dX16_goesOn_94 gf_X16_257 (hR.kK' hi hk) (hR.iv (lvK' hi hk) (by decide) (by decide)) rfl ?_
  refine zs_aload_n (n := 98) dX16_goesOn_97 rfl rfl ?_
  refine zs_getv (x := (sV S 1001 684)) (n := 101) dX16_goesOn_98 gf_X16_194 (hR.kd (lvM h4 (by omega))) (hR.iv (lvM h4 (by omega)) (by decide) (by decide)) rfl ?_
  refine zs_iload (n := 103) dX16_goesOn_101 rfl rfl ?_
  refine zs_if_eq (tgt := 111) (n := 106) dX16_goesOn_103 (by decide) rfl (fun h => absurd h (by decide)) (fun _ => ?_)
  refine zs_bipush (v := 50) (n := 108) dX16_goesOn_106 (by decide) rfl ?_
  refine zs_goto (tgt := 112) dX16_goesOn_108 (by decide) ?_
  refine zs_iadd (n := 113) dX16_goesOn_112 rfl ?_
  refine zs_iload_n (n := 114) dX16_goesOn_113 rfl rfl ?_
  refine zs_if_eq (tgt := 122) (n := 117) dX16_goesOn_114 (by decide) rfl (fun h => absurd h (by decide)) (fun _ => ?_)
  refine zs_bipush (v := 10) (n := 119) dX16_goesOn_117 (by decide) rfl ?_
  refine zs_goto (tgt := 123) dX16_goesOn_119 (by decide) ?_
  refine zs_iadd (n := 124) dX16_goesOn_123 rfl ?_
  refine zs_imul (n := 125) dX16_goesOn_124 rfl ?_
  refine zs_bipush (v := 100) (n := 127) dX16_goesOn_125 (by decide) rfl ?_
  refine zs_idiv (n := 128) dX16_goesOn_127 (by decide) rfl ?_
  rw [show (((sV S (1160 + 8 * i + k) 611) * (((sV S 1001 684) + (50 : Int32)) + (10 : Int32))) / (100 : Int32)) = fGoX S (1160 + 8 * i + k) true true from rfl]
  refine zs_istore (n := 130) dX16_goesOn_128 (by decide) rfl ?_
  refine zs_aload_n (n := 131) dX16_goesOn_130 rfl rfl ?_
  refine zs_dup (n := 132) dX16_goesOn_131 rfl rfl ?_
  refine zs_getv (x := (sV S (1160 + 8 * i + k) 611)) (n := 135) dX16_goesOn_132 gf_X16_257 (hR.kK' hi hk) (hR.iv (lvK' hi hk) (by decide) (by decide)) rfl ?_
  refine zs_iload (n := 137) dX16_goesOn_135 rfl rfl ?_
  refine zs_iload (n := 139) dX16_goesOn_137 rfl rfl ?_
  refine zs_aload_n (n := 140) dX16_goesOn_139 rfl rfl ?_
  refine zs_getv (x := (sV S (1160 + 8 * i + k) 611)) (n := 143) dX16_goesOn_140 gf_X16_257 (hR.kK' hi hk) (hR.iv (lvK' hi hk) (by decide) (by decide)) rfl ?_
  refine zs_min (n := 146) dX16_goesOn_143 ⟨⟨tw_8 _ (List.mem_of_getElem? (i := 54) (by decide +kernel)), by decide +kernel⟩, w_i1, w_m2, w_i3⟩ (by simp) rfl ?_
  refine zs_isub (n := 147) dX16_goesOn_146 rfl ?_
  refine zs_iadd (n := 148) dX16_goesOn_147 rfl ?_
  rw [show ((sV S (1160 + 8 * i + k) 611) + ((0 : Int32) - (if (sV S (1160 + 8 * i + k) 611) < (fGoX S (1160 + 8 * i + k) true true) then (sV S (1160 + 8 * i + k) 611) else (fGoX S (1160 + 8 * i + k) true true)))) = (fStdM S i (1160 + 8 * i + k) a m true true) from rfl]
  refine zw_i (r := (1160 + 8 * i + k)) (n := 151) dX16_goesOn_148 pf_X16_goesOn_257 hR (lvK' hi hk) (hR.kK' hi hk) ⟨rfl, rfl⟩ (by decide) rfl ?_
  intro M hR hv
  refine zs_aload_n (n := 152) dX16_goesOn_151 rfl rfl ?_
  refine zs_aload_n (n := 153) dX16_goesOn_152 rfl rfl ?_
  refine zs_getv (x := (sV S (1160 + 8 * i + k) 612)) (n := 156) dX16_goesOn_153 gf_X16_277 (hR.kK' hi hk) (hR.iv (lvK' hi hk) (by decide) (by decide)) rfl ?_
  refine zs_aload_n (n := 157) dX16_goesOn_156 rfl rfl ?_
  refine zs_getv (x := ((u2 (sV S) (1160 + 8 * i + k) 611 (fStdM S i (1160 + 8 * i + k) a m true true)) (1160 + 8 * i + k) 611)) (n := 160) dX16_goesOn_157 gf_X16_257 (hR.kK' hi hk) (hR.iv (lvK' hi hk) (by decide) (by decide)) rfl ?_
  rw [show ((u2 (sV S) (1160 + 8 * i + k) 611 (fStdM S i (1160 + 8 * i + k) a m true true)) (1160 + 8 * i + k) 611) = (fStdM S i (1160 + 8 * i + k) a m true true) from u2_at]
  refine zs_max (n := 163) dX16_goesOn_160 ⟨⟨tw_8 _ (List.mem_of_getElem? (i := 55) (by decide +kernel)), by decide +kernel⟩, w_m1, w_m2, w_m3⟩ (by simp) rfl ?_
  refine zw_i (r := (1160 + 8 * i + k)) (n := 166) dX16_goesOn_163 pf_X16_goesOn_277 hR (lvK' hi hk) (hR.kK' hi hk) ⟨rfl, rfl⟩ (by decide) rfl ?_
  intro M hR hv
  refine zs_aload_n (n := 167) dX16_goesOn_166 rfl rfl ?_
  refine zs_dup (n := 168) dX16_goesOn_167 rfl rfl ?_
  refine zs_getv (x := (sV S (1160 + 8 * i + k) 614)) (n := 171) dX16_goesOn_168 gf_X16_283 (hR.kK' hi hk) (hR.iv (lvK' hi hk) (by decide) (by decide)) rfl ?_
  refine zs_iload_n (n := 172) dX16_goesOn_171 rfl rfl ?_
  refine zs_if_eq (tgt := 179) (n := 175) dX16_goesOn_172 (by decide) rfl (fun h => absurd h (by decide)) (fun _ => ?_)
  refine zs_iconst (v := 1) (n := 176) dX16_goesOn_175 (by decide) rfl ?_
  refine zs_goto (tgt := 180) dX16_goesOn_176 (by decide) ?_
  refine zs_iadd (n := 181) dX16_goesOn_180 rfl ?_
  refine zw_i (r := (1160 + 8 * i + k)) (n := 184) dX16_goesOn_181 pf_X16_goesOn_283 hR (lvK' hi hk) (hR.kK' hi hk) ⟨rfl, rfl⟩ (by decide) rfl ?_
  intro M hR hv
  refine zX.sub (L' := [(0, .ref (Λ 1001)), (1, .ref (Λ (1100 + i))), (2, .ref (Λ (1160 + 8 * i + k))), (4, .int (nI m)), (5, .ref (Λ (1140 + a)))]) ⟨rfl, rfl, rfl, rfl, rfl, trivial⟩ ?_
  exact kk M hR
theorem k_goE_b {i k a m : Nat} (hR : zRp Z Λ S M) (h4 : sc S 4 = 1) (hi : i < sc S 1000) (hk : k < sc S (1010 + i)) (ha : a < sc S 1001) (hb : 10 ≤ sV S (1160 + 8 * i + k) 612 ∧ sV S (1160 + 8 * i + k) 611 < 3) (hQ : ∀ M', zRp Z Λ (wV S (u2 (u2 (sV S) (1160 + 8 * i + k) 615 1) (1160 + 8 * i + k) 610 (nI m))) M' → Q (.inl none) M') : zX Z l 4 mth_X16_goesOn 184 [(0, .ref (Λ 1001)), (1, .ref (Λ (1100 + i))), (2, .ref (Λ (1160 + 8 * i + k))), (4, .int (nI m)), (5, .ref (Λ (1140 + a)))] [] M nc ns Q := by
  refine zs_aload_n (n := 185) dX16_goesOn_184 rfl rfl ?_
  refine zs_getv (x := (sV S (1160 + 8 * i + k) 612)) (n := 188) dX16_goesOn_185 gf_X16_277 (hR.kK' hi hk) (hR.iv (lvK' hi hk) (by decide) (by decide)) rfl ?_
  refine zs_bipush (v := 10) (n := 190) dX16_goesOn_188 (by decide) rfl ?_
  refine zs_icmp_lt (tgt := 215) (n := 193) dX16_goesOn_190 (by decide) rfl (fun h => absurd h (Int32.not_lt.mpr hb.1)) (fun _ => ?_)
  refine zs_aload_n (n := 194) dX16_goesOn_193 rfl rfl ?_
  refine zs_getv (x := (sV S (1160 + 8 * i + k) 611)) (n := 197) dX16_goesOn_194 gf_X16_257 (hR.kK' hi hk) (hR.iv (lvK' hi hk) (by decide) (by decide)) rfl ?_
  refine zs_iconst (v := 3) (n := 198) dX16_goesOn_197 (by decide) rfl ?_
  refine zs_icmp_ge (tgt := 215) (n := 201) dX16_goesOn_198 (by decide) rfl (fun h => absurd h (Int32.not_le.mpr hb.2)) (fun _ => ?_)
  refine zs_aload_n (n := 202) dX16_goesOn_201 rfl rfl ?_
  refine zs_iconst (v := 1) (n := 203) dX16_goesOn_202 (by decide) rfl ?_
  refine zw_i (r := (1160 + 8 * i + k)) (n := 206) dX16_goesOn_203 pf_X16_goesOn_286 hR (lvK' hi hk) (hR.kK' hi hk) ⟨rfl, rfl⟩ (by decide) rfl ?_
  intro M hR hv
  refine zs_aload_n (n := 207) dX16_goesOn_206 rfl rfl ?_
  refine zs_iload (n := 209) dX16_goesOn_207 rfl rfl ?_
  refine zw_i (r := (1160 + 8 * i + k)) (n := 212) dX16_goesOn_209 pf_X16_goesOn_217 hR (lvK' hi hk) (hR.kK' hi hk) ⟨rfl, rfl⟩ (by decide) rfl ?_
  intro M hR hv
  refine zs_goto (tgt := 233) dX16_goesOn_212 (by decide) ?_
  refine zs_return dX16_goesOn_233 rfl ?_
  exact hQ _ hR
theorem k_goE_n1 {i k a m : Nat} (hR : zRp Z Λ S M) (h4 : sc S 4 = 1) (hi : i < sc S 1000) (hk : k < sc S (1010 + i)) (ha : a < sc S 1001) (hb : sV S (1160 + 8 * i + k) 612 < 10) (hl : ¬ nI m = sV S (1160 + 8 * i + k) 610) (hQ : ∀ M', zRp Z Λ S M' → Q (.inl none) M') : zX Z l 4 mth_X16_goesOn 184 [(0, .ref (Λ 1001)), (1, .ref (Λ (1100 + i))), (2, .ref (Λ (1160 + 8 * i + k))), (4, .int (nI m)), (5, .ref (Λ (1140 + a)))] [] M nc ns Q := by
  refine zs_aload_n (n := 185) dX16_goesOn_184 rfl rfl ?_
  refine zs_getv (x := (sV S (1160 + 8 * i + k) 612)) (n := 188) dX16_goesOn_185 gf_X16_277 (hR.kK' hi hk) (hR.iv (lvK' hi hk) (by decide) (by decide)) rfl ?_
  refine zs_bipush (v := 10) (n := 190) dX16_goesOn_188 (by decide) rfl ?_
  refine zs_icmp_lt (tgt := 215) (n := 193) dX16_goesOn_190 (by decide) rfl (fun _ => ?_) (fun h => absurd hb h)
  refine zs_iload (n := 217) dX16_goesOn_215 rfl rfl ?_
  refine zs_aload_n (n := 218) dX16_goesOn_217 rfl rfl ?_
  refine zs_getv (x := (sV S (1160 + 8 * i + k) 610)) (n := 221) dX16_goesOn_218 gf_X16_217 (hR.kK' hi hk) (hR.iv (lvK' hi hk) (by decide) (by decide)) rfl ?_
  refine zs_icmp_ne (tgt := 233) (n := 224) dX16_goesOn_221 (by decide) rfl (fun _ => ?_) (fun h => absurd h hl)
  refine zs_return dX16_goesOn_233 rfl ?_
  exact hQ _ hR
theorem k_goE_gr1 {i k a m : Nat} (hR : zRp Z Λ S M) (h4 : sc S 4 = 1) (hi : i < sc S 1000) (hk : k < sc S (1010 + i)) (ha : a < sc S 1001) (hb : sV S (1160 + 8 * i + k) 612 < 10) (hl : nI m = sV S (1160 + 8 * i + k) 610) (hrn : fIn (nI m) (sV S 1001 682) (sV S 1001 683) = true) (hgp : ¬ fGvP S a = 0) (hQ : ∀ M', zRp Z Λ (wV S (fGv S (1160 + 8 * i + k) a (fAllM S (1160 + 8 * i + k) a / 2))) M' → Q (.inl none) M') : zX Z l 4 mth_X16_goesOn 184 [(0, .ref (Λ 1001)), (1, .ref (Λ (1100 + i))), (2, .ref (Λ (1160 + 8 * i + k))), (4, .int (nI m)), (5, .ref (Λ (1140 + a)))] [] M 3 12 Q := by
  refine zs_aload_n (n := 185) dX16_goesOn_184 rfl rfl ?_
  refine zs_getv (x := (sV S (1160 + 8 * i + k) 612)) (n := 188) dX16_goesOn_185 gf_X16_277 (hR.kK' hi hk) (hR.iv (lvK' hi hk) (by decide) (by decide)) rfl ?_
  refine zs_bipush (v := 10) (n := 190) dX16_goesOn_188 (by decide) rfl ?_
  refine zs_icmp_lt (tgt := 215) (n := 193) dX16_goesOn_190 (by decide) rfl (fun _ => ?_) (fun h => absurd hb h)
  refine zs_iload (n := 217) dX16_goesOn_215 rfl rfl ?_
  refine zs_aload_n (n := 218) dX16_goesOn_217 rfl rfl ?_
  refine zs_getv (x := (sV S (1160 + 8 * i + k) 610)) (n := 221) dX16_goesOn_218 gf_X16_217 (hR.kK' hi hk) (hR.iv (lvK' hi hk) (by decide) (by decide)) rfl ?_
  refine zs_icmp_ne (tgt := 233) (n := 224) dX16_goesOn_221 (by decide) rfl (fun h => absurd h (fun h => h hl)) (fun _ => ?_)
  refine zs_aload_n (n := 225) dX16_goesOn_224 rfl rfl ?_
  refine zs_aload_n (n := 226) dX16_goesOn_225 rfl rfl ?_
  refine zs_aload (n := 228) dX16_goesOn_226 rfl rfl ?_
  refine zs_iload (n := 230) dX16_goesOn_228 rfl rfl ?_
  refine zg_V (n := 233) (As := [.ref (Λ (1160 + 8 * i + k)), .ref (Λ (1140 + a)), .int (nI m)]) (ci := 21) (mc := 3) (ms := 12) dX16_goesOn_230 ok_X16_gives ⟨ml_X16_289, im_X16_gives, sl_X16_gives⟩ rfl (hR.kd (lvM h4 (by omega))) rfl (Nat.le_of_ble_eq_true rfl) (by simp) (by omega) (Nat.le_refl _) (Nat.le_refl _) rfl rfl (k_gives_r hR h4 hi hk ha hrn hgp) ?_
  intro M hR
  refine zs_return dX16_goesOn_233 rfl ?_
  exact hQ _ hR
theorem k_goE_gn1 {i k a m : Nat} (hR : zRp Z Λ S M) (h4 : sc S 4 = 1) (hi : i < sc S 1000) (hk : k < sc S (1010 + i)) (ha : a < sc S 1001) (hb : sV S (1160 + 8 * i + k) 612 < 10) (hl : nI m = sV S (1160 + 8 * i + k) 610) (hrn : fIn (nI m) (sV S 1001 682) (sV S 1001 683) = false) (hgp : ¬ fGvP S a = 0) (hQ : ∀ M', zRp Z Λ (wV S (fGv S (1160 + 8 * i + k) a (fAllM S (1160 + 8 * i + k) a))) M' → Q (.inl none) M') : zX Z l 4 mth_X16_goesOn 184 [(0, .ref (Λ 1001)), (1, .ref (Λ (1100 + i))), (2, .ref (Λ (1160 + 8 * i + k))), (4, .int (nI m)), (5, .ref (Λ (1140 + a)))] [] M 3 12 Q := by
  refine zs_aload_n (n := 185) dX16_goesOn_184 rfl rfl ?_
  refine zs_getv (x := (sV S (1160 + 8 * i + k) 612)) (n := 188) dX16_goesOn_185 gf_X16_277 (hR.kK' hi hk) (hR.iv (lvK' hi hk) (by decide) (by decide)) rfl ?_
  refine zs_bipush (v := 10) (n := 190) dX16_goesOn_188 (by decide) rfl ?_
  refine zs_icmp_lt (tgt := 215) (n := 193) dX16_goesOn_190 (by decide) rfl (fun _ => ?_) (fun h => absurd hb h)
  refine zs_iload (n := 217) dX16_goesOn_215 rfl rfl ?_
  refine zs_aload_n (n := 218) dX16_goesOn_217 rfl rfl ?_
  refine zs_getv (x := (sV S (1160 + 8 * i + k) 610)) (n := 221) dX16_goesOn_218 gf_X16_217 (hR.kK' hi hk) (hR.iv (lvK' hi hk) (by decide) (by decide)) rfl ?_
  refine zs_icmp_ne (tgt := 233) (n := 224) dX16_goesOn_221 (by decide) rfl (fun h => absurd h (fun h => h hl)) (fun _ => ?_)
  refine zs_aload_n (n := 225) dX16_goesOn_224 rfl rfl ?_
  refine zs_aload_n (n := 226) dX16_goesOn_225 rfl rfl ?_
  refine zs_aload (n := 228) dX16_goesOn_226 rfl rfl ?_
  refine zs_iload (n := 230) dX16_goesOn_228 rfl rfl ?_
  refine zg_V (n := 233) (As := [.ref (Λ (1160 + 8 * i + k)), .ref (Λ (1140 + a)), .int (nI m)]) (ci := 21) (mc := 3) (ms := 12) dX16_goesOn_230 ok_X16_gives ⟨ml_X16_289, im_X16_gives, sl_X16_gives⟩ rfl (hR.kd (lvM h4 (by omega))) rfl (Nat.le_of_ble_eq_true rfl) (by simp) (by omega) (Nat.le_refl _) (Nat.le_refl _) rfl rfl (k_gives_n hR h4 hi hk ha hrn hgp) ?_
  intro M hR
  refine zs_return dX16_goesOn_233 rfl ?_
  exact hQ _ hR
theorem k_goE_n2 {i k a m : Nat} (hR : zRp Z Λ S M) (h4 : sc S 4 = 1) (hi : i < sc S 1000) (hk : k < sc S (1010 + i)) (ha : a < sc S 1001) (hb : ¬ sV S (1160 + 8 * i + k) 612 < 10) (hb2 : 3 ≤ sV S (1160 + 8 * i + k) 611) (hl : ¬ nI m = sV S (1160 + 8 * i + k) 610) (hQ : ∀ M', zRp Z Λ S M' → Q (.inl none) M') : zX Z l 4 mth_X16_goesOn 184 [(0, .ref (Λ 1001)), (1, .ref (Λ (1100 + i))), (2, .ref (Λ (1160 + 8 * i + k))), (4, .int (nI m)), (5, .ref (Λ (1140 + a)))] [] M nc ns Q := by
  refine zs_aload_n (n := 185) dX16_goesOn_184 rfl rfl ?_
  refine zs_getv (x := (sV S (1160 + 8 * i + k) 612)) (n := 188) dX16_goesOn_185 gf_X16_277 (hR.kK' hi hk) (hR.iv (lvK' hi hk) (by decide) (by decide)) rfl ?_
  refine zs_bipush (v := 10) (n := 190) dX16_goesOn_188 (by decide) rfl ?_
  refine zs_icmp_lt (tgt := 215) (n := 193) dX16_goesOn_190 (by decide) rfl (fun h => absurd h hb) (fun _ => ?_)
  refine zs_aload_n (n := 194) dX16_goesOn_193 rfl rfl ?_
  refine zs_getv (x := (sV S (1160 + 8 * i + k) 611)) (n := 197) dX16_goesOn_194 gf_X16_257 (hR.kK' hi hk) (hR.iv (lvK' hi hk) (by decide) (by decide)) rfl ?_
  refine zs_iconst (v := 3) (n := 198) dX16_goesOn_197 (by decide) rfl ?_
  refine zs_icmp_ge (tgt := 215) (n := 201) dX16_goesOn_198 (by decide) rfl (fun _ => ?_) (fun h => absurd hb2 h)
  refine zs_iload (n := 217) dX16_goesOn_215 rfl rfl ?_
  refine zs_aload_n (n := 218) dX16_goesOn_217 rfl rfl ?_
  refine zs_getv (x := (sV S (1160 + 8 * i + k) 610)) (n := 221) dX16_goesOn_218 gf_X16_217 (hR.kK' hi hk) (hR.iv (lvK' hi hk) (by decide) (by decide)) rfl ?_
  refine zs_icmp_ne (tgt := 233) (n := 224) dX16_goesOn_221 (by decide) rfl (fun _ => ?_) (fun h => absurd h hl)
  refine zs_return dX16_goesOn_233 rfl ?_
  exact hQ _ hR
theorem k_goE_gr2 {i k a m : Nat} (hR : zRp Z Λ S M) (h4 : sc S 4 = 1) (hi : i < sc S 1000) (hk : k < sc S (1010 + i)) (ha : a < sc S 1001) (hb : ¬ sV S (1160 + 8 * i + k) 612 < 10) (hb2 : 3 ≤ sV S (1160 + 8 * i + k) 611) (hl : nI m = sV S (1160 + 8 * i + k) 610) (hrn : fIn (nI m) (sV S 1001 682) (sV S 1001 683) = true) (hgp : ¬ fGvP S a = 0) (hQ : ∀ M', zRp Z Λ (wV S (fGv S (1160 + 8 * i + k) a (fAllM S (1160 + 8 * i + k) a / 2))) M' → Q (.inl none) M') : zX Z l 4 mth_X16_goesOn 184 [(0, .ref (Λ 1001)), (1, .ref (Λ (1100 + i))), (2, .ref (Λ (1160 + 8 * i + k))), (4, .int (nI m)), (5, .ref (Λ (1140 + a)))] [] M 3 12 Q := by
  refine zs_aload_n (n := 185) dX16_goesOn_184 rfl rfl ?_
  refine zs_getv (x := (sV S (1160 + 8 * i + k) 612)) (n := 188) dX16_goesOn_185 gf_X16_277 (hR.kK' hi hk) (hR.iv (lvK' hi hk) (by decide) (by decide)) rfl ?_
  refine zs_bipush (v := 10) (n := 190) dX16_goesOn_188 (by decide) rfl ?_
  refine zs_icmp_lt (tgt := 215) (n := 193) dX16_goesOn_190 (by decide) rfl (fun h => absurd h hb) (fun _ => ?_)
  refine zs_aload_n (n := 194) dX16_goesOn_193 rfl rfl ?_
  refine zs_getv (x := (sV S (1160 + 8 * i + k) 611)) (n := 197) dX16_goesOn_194 gf_X16_257 (hR.kK' hi hk) (hR.iv (lvK' hi hk) (by decide) (by decide)) rfl ?_
  refine zs_iconst (v := 3) (n := 198) dX16_goesOn_197 (by decide) rfl ?_
  refine zs_icmp_ge (tgt := 215) (n := 201) dX16_goesOn_198 (by decide) rfl (fun _ => ?_) (fun h => absurd hb2 h)
  refine zs_iload (n := 217) dX16_goesOn_215 rfl rfl ?_
  refine zs_aload_n (n := 218) dX16_goesOn_217 rfl rfl ?_
  refine zs_getv (x := (sV S (1160 + 8 * i + k) 610)) (n := 221) dX16_goesOn_218 gf_X16_217 (hR.kK' hi hk) (hR.iv (lvK' hi hk) (by decide) (by decide)) rfl ?_
  refine zs_icmp_ne (tgt := 233) (n := 224) dX16_goesOn_221 (by decide) rfl (fun h => absurd h (fun h => h hl)) (fun _ => ?_)
  refine zs_aload_n (n := 225) dX16_goesOn_224 rfl rfl ?_
  refine zs_aload_n (n := 226) dX16_goesOn_225 rfl rfl ?_
  refine zs_aload (n := 228) dX16_goesOn_226 rfl rfl ?_
  refine zs_iload (n := 230) dX16_goesOn_228 rfl rfl ?_
  refine zg_V (n := 233) (As := [.ref (Λ (1160 + 8 * i + k)), .ref (Λ (1140 + a)), .int (nI m)]) (ci := 21) (mc := 3) (ms := 12) dX16_goesOn_230 ok_X16_gives ⟨ml_X16_289, im_X16_gives, sl_X16_gives⟩ rfl (hR.kd (lvM h4 (by omega))) rfl (Nat.le_of_ble_eq_true rfl) (by simp) (by omega) (Nat.le_refl _) (Nat.le_refl _) rfl rfl (k_gives_r hR h4 hi hk ha hrn hgp) ?_
  intro M hR
  refine zs_return dX16_goesOn_233 rfl ?_
  exact hQ _ hR
theorem k_goE_gn2 {i k a m : Nat} (hR : zRp Z Λ S M) (h4 : sc S 4 = 1) (hi : i < sc S 1000) (hk : k < sc S (1010 + i)) (ha : a < sc S 1001) (hb : ¬ sV S (1160 + 8 * i + k) 612 < 10) (hb2 : 3 ≤ sV S (1160 + 8 * i + k) 611) (hl : nI m = sV S (1160 + 8 * i + k) 610) (hrn : fIn (nI m) (sV S 1001 682) (sV S 1001 683) = false) (hgp : ¬ fGvP S a = 0) (hQ : ∀ M', zRp Z Λ (wV S (fGv S (1160 + 8 * i + k) a (fAllM S (1160 + 8 * i + k) a))) M' → Q (.inl none) M') : zX Z l 4 mth_X16_goesOn 184 [(0, .ref (Λ 1001)), (1, .ref (Λ (1100 + i))), (2, .ref (Λ (1160 + 8 * i + k))), (4, .int (nI m)), (5, .ref (Λ (1140 + a)))] [] M 3 12 Q := by
  refine zs_aload_n (n := 185) dX16_goesOn_184 rfl rfl ?_
  refine zs_getv (x := (sV S (1160 + 8 * i + k) 612)) (n := 188) dX16_goesOn_185 gf_X16_277 (hR.kK' hi hk) (hR.iv (lvK' hi hk) (by decide) (by decide)) rfl ?_
  refine zs_bipush (v := 10) (n := 190) dX16_goesOn_188 (by decide) rfl ?_
  refine zs_icmp_lt (tgt := 215) (n := 193) dX16_goesOn_190 (by decide) rfl (fun h => absurd h hb) (fun _ => ?_)
  refine zs_aload_n (n := 194) dX16_goesOn_193 rfl rfl ?_
  refine zs_getv (x := (sV S (1160 + 8 * i + k) 611)) (n := 197) dX16_goesOn_194 gf_X16_257 (hR.kK' hi hk) (hR.iv (lvK' hi hk) (by decide) (by decide)) rfl ?_
  refine zs_iconst (v := 3) (n := 198) dX16_goesOn_197 (by decide) rfl ?_
  refine zs_icmp_ge (tgt := 215) (n := 201) dX16_goesOn_198 (by decide) rfl (fun _ => ?_) (fun h => absurd hb2 h)
  refine zs_iload (n := 217) dX16_goesOn_215 rfl rfl ?_
  refine zs_aload_n (n := 218) dX16_goesOn_217 rfl rfl ?_
  refine zs_getv (x := (sV S (1160 + 8 * i + k) 610)) (n := 221) dX16_goesOn_218 gf_X16_217 (hR.kK' hi hk) (hR.iv (lvK' hi hk) (by decide) (by decide)) rfl ?_
  refine zs_icmp_ne (tgt := 233) (n := 224) dX16_goesOn_221 (by decide) rfl (fun h => absurd h (fun h => h hl)) (fun _ => ?_)
  refine zs_aload_n (n := 225) dX16_goesOn_224 rfl rfl ?_
  refine zs_aload_n (n := 226) dX16_goesOn_225 rfl rfl ?_
  refine zs_aload (n := 228) dX16_goesOn_226 rfl rfl ?_
  refine zs_iload (n := 230) dX16_goesOn_228 rfl rfl ?_
  refine zg_V (n := 233) (As := [.ref (Λ (1160 + 8 * i + k)), .ref (Λ (1140 + a)), .int (nI m)]) (ci := 21) (mc := 3) (ms := 12) dX16_goesOn_230 ok_X16_gives ⟨ml_X16_289, im_X16_gives, sl_X16_gives⟩ rfl (hR.kd (lvM h4 (by omega))) rfl (Nat.le_of_ble_eq_true rfl) (by simp) (by omega) (Nat.le_refl _) (Nat.le_refl _) rfl rfl (k_gives_n hR h4 hi hk ha hrn hgp) ?_
  intro M hR
  refine zs_return dX16_goesOn_233 rfl ?_
  exact hQ _ hR
theorem k_goPa {dr : Int32} {i k a m : Nat} (hR : zRp Z Λ S M) (h4 : sc S 4 = 1) (hi : i < sc S 1000) (hk : k < sc S (1010 + i)) (ha : a < sc S 1001) (hrn : fIn (nI m) (sV S 1001 682) (sV S 1001 683) = true) (hsh : sV S (1100 + i) 578 = 0) (hak : sV S (1160 + 8 * i + k) 608 = nI a) (kk : zX Z l 4 mth_X16_goesOn 37 [(0, .ref (Λ 1001)), (1, .ref (Λ (1100 + i))), (2, .ref (Λ (1160 + 8 * i + k))), (3, .int dr), (4, .int (nI m)), (5, .ref (Λ (1140 + a)))] [.int 1] M nc ns Q) : zX Z l 4 mth_X16_goesOn 0 [(0, .ref (Λ 1001)), (1, .ref (Λ (1100 + i))), (2, .ref (Λ (1160 + 8 * i + k))), (3, .int dr), (4, .int (nI m))] [] M nc ns Q := by
  refine zs_aload_n (n := 1) dX16_goesOn_0 rfl rfl ?_
  refine zs_getr (b := (Λ 1017)) (n := 4) dX16_goesOn_1 gf_X16_16 (hR.kd (lvM h4 (by omega))) (hR.pt (lvM h4 (by omega)) rfl (by decide)) rfl ?_
  refine zs_aload_n (n := 5) dX16_goesOn_4 rfl rfl ?_
  refine zs_getv (x := (sV S (1160 + 8 * i + k) 608)) (n := 8) dX16_goesOn_5 gf_X16_169 (hR.kK' hi hk) (hR.iv (lvK' hi hk) (by decide) (by decide)) rfl ?_
  rw [hak]
  refine zc_getb (c := sc S 1001) (b := (Λ (1140 + a))) (n := 11) dX16_goesOn_8 ml_X16_94 (hR.lA' h4) ha rfl (by simp) (by omega) rfl ?_
  refine zs_castS (ci := 17) (n := 14) dX16_goesOn_11 rfl cl_X16_111 (hR.kA' ha) rfl ?_
  refine zs_astore (n := 16) dX16_goesOn_14 (by decide) rfl ?_
  refine zs_aload_n (n := 17) dX16_goesOn_16 rfl rfl ?_
  refine zs_iload (n := 19) dX16_goesOn_17 rfl rfl ?_
  refine zc_V (n := 22) (As := [.int (nI m)]) (ci := 21) (mc := 0) (ms := 0) dX16_goesOn_19 ok_X16_rains ⟨ml_X16_263, im_X16_rains, sl_X16_rains⟩ rfl (hR.kd (lvM h4 (by omega))) rfl (Nat.le_of_ble_eq_true rfl) (by simp) (by omega) (Nat.le_refl _) (Nat.le_refl _) rfl rfl (k_rains hR h4) ?_
  refine zs_if_eq (tgt := 36) (n := 25) dX16_goesOn_22 (by decide) rfl (fun h => absurd h (zb1.mpr hrn)) (fun _ => ?_)
  refine zs_aload_n (n := 26) dX16_goesOn_25 rfl rfl ?_
  refine zs_getv (x := (sV S (1100 + i) 578)) (n := 29) dX16_goesOn_26 gf_X16_270 (hR.kP' hi) (hR.iv (lvP' hi) (by decide) (by decide)) rfl ?_
  refine zs_if_ne (tgt := 36) (n := 32) dX16_goesOn_29 (by decide) rfl (fun h => absurd hsh h) (fun _ => ?_)
  refine zs_iconst (v := 1) (n := 33) dX16_goesOn_32 (by decide) rfl ?_
  refine zs_goto (tgt := 37) dX16_goesOn_33 (by decide) ?_
  refine zX.sub (L' := [(0, .ref (Λ 1001)), (1, .ref (Λ (1100 + i))), (2, .ref (Λ (1160 + 8 * i + k))), (3, .int dr), (4, .int (nI m)), (5, .ref (Λ (1140 + a)))]) ⟨rfl, rfl, rfl, rfl, rfl, rfl, trivial⟩ ?_
  exact kk
theorem k_goPb {dr : Int32} {i k a m : Nat} (hR : zRp Z Λ S M) (h4 : sc S 4 = 1) (hi : i < sc S 1000) (hk : k < sc S (1010 + i)) (ha : a < sc S 1001) (hrn : fIn (nI m) (sV S 1001 682) (sV S 1001 683) = true) (hsh : ¬ sV S (1100 + i) 578 = 0) (hak : sV S (1160 + 8 * i + k) 608 = nI a) (kk : zX Z l 4 mth_X16_goesOn 37 [(0, .ref (Λ 1001)), (1, .ref (Λ (1100 + i))), (2, .ref (Λ (1160 + 8 * i + k))), (3, .int dr), (4, .int (nI m)), (5, .ref (Λ (1140 + a)))] [.int 0] M nc ns Q) : zX Z l 4 mth_X16_goesOn 0 [(0, .ref (Λ 1001)), (1, .ref (Λ (1100 + i))), (2, .ref (Λ (1160 + 8 * i + k))), (3, .int dr), (4, .int (nI m))] [] M nc ns Q := by
  refine zs_aload_n (n := 1) dX16_goesOn_0 rfl rfl ?_
  refine zs_getr (b := (Λ 1017)) (n := 4) dX16_goesOn_1 gf_X16_16 (hR.kd (lvM h4 (by omega))) (hR.pt (lvM h4 (by omega)) rfl (by decide)) rfl ?_
  refine zs_aload_n (n := 5) dX16_goesOn_4 rfl rfl ?_
  refine zs_getv (x := (sV S (1160 + 8 * i + k) 608)) (n := 8) dX16_goesOn_5 gf_X16_169 (hR.kK' hi hk) (hR.iv (lvK' hi hk) (by decide) (by decide)) rfl ?_
  rw [hak]
  refine zc_getb (c := sc S 1001) (b := (Λ (1140 + a))) (n := 11) dX16_goesOn_8 ml_X16_94 (hR.lA' h4) ha rfl (by simp) (by omega) rfl ?_
  refine zs_castS (ci := 17) (n := 14) dX16_goesOn_11 rfl cl_X16_111 (hR.kA' ha) rfl ?_
  refine zs_astore (n := 16) dX16_goesOn_14 (by decide) rfl ?_
  refine zs_aload_n (n := 17) dX16_goesOn_16 rfl rfl ?_
  refine zs_iload (n := 19) dX16_goesOn_17 rfl rfl ?_
  refine zc_V (n := 22) (As := [.int (nI m)]) (ci := 21) (mc := 0) (ms := 0) dX16_goesOn_19 ok_X16_rains ⟨ml_X16_263, im_X16_rains, sl_X16_rains⟩ rfl (hR.kd (lvM h4 (by omega))) rfl (Nat.le_of_ble_eq_true rfl) (by simp) (by omega) (Nat.le_refl _) (Nat.le_refl _) rfl rfl (k_rains hR h4) ?_
  refine zs_if_eq (tgt := 36) (n := 25) dX16_goesOn_22 (by decide) rfl (fun h => absurd h (zb1.mpr hrn)) (fun _ => ?_)
  refine zs_aload_n (n := 26) dX16_goesOn_25 rfl rfl ?_
  refine zs_getv (x := (sV S (1100 + i) 578)) (n := 29) dX16_goesOn_26 gf_X16_270 (hR.kP' hi) (hR.iv (lvP' hi) (by decide) (by decide)) rfl ?_
  refine zs_if_ne (tgt := 36) (n := 32) dX16_goesOn_29 (by decide) rfl (fun _ => ?_) (fun h => absurd h hsh)
  refine zs_iconst (v := 0) (n := 37) dX16_goesOn_36 (by decide) rfl ?_
  refine zX.sub (L' := [(0, .ref (Λ 1001)), (1, .ref (Λ (1100 + i))), (2, .ref (Λ (1160 + 8 * i + k))), (3, .int dr), (4, .int (nI m)), (5, .ref (Λ (1140 + a)))]) ⟨rfl, rfl, rfl, rfl, rfl, rfl, trivial⟩ ?_
  exact kk
theorem k_goPc {dr : Int32} {i k a m : Nat} (hR : zRp Z Λ S M) (h4 : sc S 4 = 1) (hi : i < sc S 1000) (hk : k < sc S (1010 + i)) (ha : a < sc S 1001) (hrn : fIn (nI m) (sV S 1001 682) (sV S 1001 683) = false) (hak : sV S (1160 + 8 * i + k) 608 = nI a) (kk : zX Z l 4 mth_X16_goesOn 37 [(0, .ref (Λ 1001)), (1, .ref (Λ (1100 + i))), (2, .ref (Λ (1160 + 8 * i + k))), (3, .int dr), (4, .int (nI m)), (5, .ref (Λ (1140 + a)))] [.int 0] M nc ns Q) : zX Z l 4 mth_X16_goesOn 0 [(0, .ref (Λ 1001)), (1, .ref (Λ (1100 + i))), (2, .ref (Λ (1160 + 8 * i + k))), (3, .int dr), (4, .int (nI m))] [] M nc ns Q := by
  refine zs_aload_n (n := 1) dX16_goesOn_0 rfl rfl ?_
  refine zs_getr (b := (Λ 1017)) (n := 4) dX16_goesOn_1 gf_X16_16 (hR.kd (lvM h4 (by omega))) (hR.pt (lvM h4 (by omega)) rfl (by decide)) rfl ?_
  refine zs_aload_n (n := 5) dX16_goesOn_4 rfl rfl ?_
  refine zs_getv (x := (sV S (1160 + 8 * i + k) 608)) (n := 8) dX16_goesOn_5 gf_X16_169 (hR.kK' hi hk) (hR.iv (lvK' hi hk) (by decide) (by decide)) rfl ?_
  rw [hak]
  refine zc_getb (c := sc S 1001) (b := (Λ (1140 + a))) (n := 11) dX16_goesOn_8 ml_X16_94 (hR.lA' h4) ha rfl (by simp) (by omega) rfl ?_
  refine zs_castS (ci := 17) (n := 14) dX16_goesOn_11 rfl cl_X16_111 (hR.kA' ha) rfl ?_
  refine zs_astore (n := 16) dX16_goesOn_14 (by decide) rfl ?_
  refine zs_aload_n (n := 17) dX16_goesOn_16 rfl rfl ?_
  refine zs_iload (n := 19) dX16_goesOn_17 rfl rfl ?_
  refine zc_V (n := 22) (As := [.int (nI m)]) (ci := 21) (mc := 0) (ms := 0) dX16_goesOn_19 ok_X16_rains ⟨ml_X16_263, im_X16_rains, sl_X16_rains⟩ rfl (hR.kd (lvM h4 (by omega))) rfl (Nat.le_of_ble_eq_true rfl) (by simp) (by omega) (Nat.le_refl _) (Nat.le_refl _) rfl rfl (k_rains hR h4) ?_
  refine zs_if_eq (tgt := 36) (n := 25) dX16_goesOn_22 (by decide) rfl (fun _ => ?_) (fun h => absurd (zb0.mpr hrn) h)
  refine zs_iconst (v := 0) (n := 37) dX16_goesOn_36 (by decide) rfl ?_
  refine zX.sub (L' := [(0, .ref (Λ 1001)), (1, .ref (Λ (1100 + i))), (2, .ref (Λ (1160 + 8 * i + k))), (3, .int dr), (4, .int (nI m)), (5, .ref (Λ (1140 + a)))]) ⟨rfl, rfl, rfl, rfl, rfl, rfl, trivial⟩ ?_
  exact kk
def fWetM (S : zSt) (i m : Nat) : Bool := fIn (nI m) (sV S 1001 682) (sV S 1001 683) && decide (sV S (1100 + i) 578 = 0)
theorem k_goP {dr : Int32} {i k a m : Nat} (hR : zRp Z Λ S M) (h4 : sc S 4 = 1) (hi : i < sc S 1000) (hk : k < sc S (1010 + i)) (ha : a < sc S 1001) (hak : sV S (1160 + 8 * i + k) 608 = nI a) (kk : zX Z l 4 mth_X16_goesOn 37 [(0, .ref (Λ 1001)), (1, .ref (Λ (1100 + i))), (2, .ref (Λ (1160 + 8 * i + k))), (3, .int dr), (4, .int (nI m)), (5, .ref (Λ (1140 + a)))] [.int (zb (fWetM S i m))] M nc ns Q) : zX Z l 4 mth_X16_goesOn 0 [(0, .ref (Λ 1001)), (1, .ref (Λ (1100 + i))), (2, .ref (Λ (1160 + 8 * i + k))), (3, .int dr), (4, .int (nI m))] [] M nc ns Q := by
  unfold fWetM at kk
  cases hrn : fIn (nI m) (sV S 1001 682) (sV S 1001 683) with
  | false =>
    rw [hrn] at kk
    exact k_goPc hR h4 hi hk ha hrn hak kk
  | true =>
    rw [hrn] at kk
    by_cases hsh : sV S (1100 + i) 578 = 0
    · rw [decide_eq_true hsh] at kk
      exact k_goPa hR h4 hi hk ha hrn hsh hak kk
    · rw [decide_eq_false hsh] at kk
      exact k_goPb hR h4 hi hk ha hrn hsh hak kk
/-- from the start to the turn's end of the minute -/
theorem k_goA {i k a m : Nat} (hR : zRp Z Λ S M) (h4 : sc S 4 = 1) (hi : i < sc S 1000) (hk : k < sc S (1010 + i)) (ha : a < sc S 1001) (hak : sV S (1160 + 8 * i + k) 608 = nI a) (h6 : 600 ≤ m) (h12 : m < 1200) (dr : Bool)
    (kk : ∀ M', zRp Z Λ (wV S (fGoM S i (1160 + 8 * i + k) a m (fWetM S i m) dr)) M' → zX Z l 4 mth_X16_goesOn 184 [(0, .ref (Λ 1001)), (1, .ref (Λ (1100 + i))), (2, .ref (Λ (1160 + 8 * i + k))), (4, .int (nI m)), (5, .ref (Λ (1140 + a)))] [] M' nc ns Q) :
    zX Z l 4 mth_X16_goesOn 0 [(0, .ref (Λ 1001)), (1, .ref (Λ (1100 + i))), (2, .ref (Λ (1160 + 8 * i + k))), (3, .int (zb dr)), (4, .int (nI m))] [] M nc ns Q := by
  refine k_goP hR h4 hi hk ha hak ?_
  cases hw : fWetM S i m <;> cases dr <;> rw [hw] at kk
  · exact k_go00 hR h4 hi hk ha h6 h12 kk
  · exact k_go01 hR h4 hi hk ha h6 h12 kk
  · exact k_go10 hR h4 hi hk ha h6 h12 kk
  · exact k_go11 hR h4 hi hk ha h6 h12 kk
/-- what a minute makes of a turn that is at it -/
def fEndM (S : zSt) (t a m : Nat) : Nat → Nat → Int32 :=
  if 10 ≤ sV S t 612 ∧ sV S t 611 < 3 then u2 (u2 (sV S) t 615 1) t 610 (nI m)
  else if nI m = sV S t 610 then fGv S t a (if fIn (nI m) (sV S 1001 682) (sV S 1001 683) = true then fAllM S t a / 2 else fAllM S t a) else sV S
def fGivM (S : zSt) (t m : Nat) : Prop := ¬ (10 ≤ sV S t 612 ∧ sV S t 611 < 3) ∧ nI m = sV S t 610
theorem k_goE {i k a m : Nat} (hR : zRp Z Λ S M) (h4 : sc S 4 = 1) (hi : i < sc S 1000) (hk : k < sc S (1010 + i)) (ha : a < sc S 1001) (hgp : ¬ fGvP S a = 0) (hnc : fGivM S (1160 + 8 * i + k) m → 3 + nc1 ≤ nc ∧ 12 + ns1 ≤ ns) (hQ : ∀ M', zRp Z Λ (wV S (fEndM S (1160 + 8 * i + k) a m)) M' → Q (.inl none) M') : zX Z l 4 mth_X16_goesOn 184 [(0, .ref (Λ 1001)), (1, .ref (Λ (1100 + i))), (2, .ref (Λ (1160 + 8 * i + k))), (4, .int (nI m)), (5, .ref (Λ (1140 + a)))] [] M nc ns Q := by
  by_cases hb : 10 ≤ sV S (1160 + 8 * i + k) 612 ∧ sV S (1160 + 8 * i + k) 611 < 3
  · have e : fEndM S (1160 + 8 * i + k) a m = u2 (u2 (sV S) (1160 + 8 * i + k) 615 1) (1160 + 8 * i + k) 610 (nI m) := if_pos hb
    rw [e] at hQ
    exact k_goE_b hR h4 hi hk ha hb hQ
  · by_cases hl : nI m = sV S (1160 + 8 * i + k) 610
    · obtain ⟨hn1, hn2⟩ := hnc ⟨hb, hl⟩
      refine zX.more (nc' := 3) (ns' := 12) ?_ (by omega) (by omega)
      have e : fEndM S (1160 + 8 * i + k) a m = fGv S (1160 + 8 * i + k) a (if fIn (nI m) (sV S 1001 682) (sV S 1001 683) = true then fAllM S (1160 + 8 * i + k) a / 2 else fAllM S (1160 + 8 * i + k) a) := (if_neg hb).trans (if_pos hl)
      rw [e] at hQ
      by_cases hb1 : sV S (1160 + 8 * i + k) 612 < 10
      · cases hrn : fIn (nI m) (sV S 1001 682) (sV S 1001 683) with
        | true =>
          rw [if_pos hrn] at hQ
          exact k_goE_gr1 hR h4 hi hk ha hb1 hl hrn hgp hQ
        | false =>
          rw [if_neg (by rw [hrn]; decide)] at hQ
          exact k_goE_gn1 hR h4 hi hk ha hb1 hl hrn hgp hQ
      · have hb2 : 3 ≤ sV S (1160 + 8 * i + k) 611 := Int32.not_lt.mp (fun h => hb ⟨Int32.not_lt.mp hb1, h⟩)
        cases hrn : fIn (nI m) (sV S 1001 682) (sV S 1001 683) with
        | true =>
          rw [if_pos hrn] at hQ
          exact k_goE_gr2 hR h4 hi hk ha hb1 hb2 hl hrn hgp hQ
        | false =>
          rw [if_neg (by rw [hrn]; decide)] at hQ
          exact k_goE_gn2 hR h4 hi hk ha hb1 hb2 hl hrn hgp hQ
    · have e : fEndM S (1160 + 8 * i + k) a m = sV S := (if_neg hb).trans (if_neg hl)
      rw [e] at hQ
      by_cases hb1 : sV S (1160 + 8 * i + k) 612 < 10
      · exact k_goE_n1 hR h4 hi hk ha hb1 hl hQ
      · exact k_goE_n2 hR h4 hi hk ha hb1 (Int32.not_lt.mp (fun h => hb ⟨Int32.not_lt.mp hb1, h⟩)) hl hQ
end ZMOD12
