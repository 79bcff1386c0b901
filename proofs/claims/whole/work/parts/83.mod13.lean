/-! THE MODEL PLAYS: visits -/
section ZMOD13
variable {Z : zPar} {l : Launch} {Λ : Nat → Nat} {S : zSt} {M M0 : zMem} {d d' : Nat} {mm : zMeth} {pc n nc ns ix nc1 ns1 : Nat} {L : List (Nat × Value)} {st : List Value} {Q : zO → zMem → Prop}
theorem and3_f1 {a b c : Bool} (h : a = false) : (a && b && c) = false := by rw [h]; rfl
theorem and3_f2 {a b c : Bool} (h : b = false) : (a && b && c) = false := by rw [h, Bool.and_false]; rfl
theorem and3_f3 {a b c : Bool} (h : c = false) : (a && b && c) = false := by rw [h, Bool.and_false]
theorem and3_t {a b c : Bool} (h1 : a = true) (h2 : b = true) (h3 : c = true) : (a && b && c) = true := by rw [h1, h2, h3]; rfl
/-- is there another pitch near that is played at -/
def fNrM (S : zSt) (p m n : Nat) : Bool := zit (fun k b => b || (decide (¬ k = p) && decide (fAtM S k (nI m) < sc S (1010 + k)) && decide ((if 0 ≤ sV S (1100 + k) 576 - sV S (1100 + p) 576 then sV S (1100 + k) 576 - sV S (1100 + p) 576 else 0 - (sV S (1100 + k) 576 - sV S (1100 + p) 576)) < sV S 1001 686))) n false
def fSumV (f l n : Bool) : Int32 := (if f = true then 20 else 0) + (if l = true then 10 else 0) + (if n = true then 5 else 0)
def fKndV (f l n : Bool) : Int32 := if f = true then 102 else if l = true then 110 else if n = true then 100 else 45
def fVsM (S : zSt) (j a : Nat) (f l n : Bool) : Nat → Nat → Int32 := u2 (u2 (u2 (u2 (sV S) (1150 + j) 643 (fSumV f l n)) (1150 + j) 642 (fKndV f l n)) (1140 + a) 550 (sV S (1140 + a) 550 - fSumV f l n)) 1001 689 (sV S 1001 689 + fSumV f l n)
theorem k_vNear {jv p a m : Nat} (hR : zRp Z Λ S M) (h4 : sc S 4 = 1) (hjv : jv < sc S 1002) (hp : p < sc S 1000) (ha : a < sc S 1001) (kk : ∀ M', zRp Z Λ S M' → zX Z l 5 mth_X16_visits 181 [(0, .ref (Λ 1001)), (1, .int (nI m)), (2, .int (nI jv)), (3, .ref (Λ (1150 + jv))), (5, .ref (Λ (1100 + p))), (6, .ref (Λ (1140 + a))), (7, .int (zb (fNrM S p m (sc S 1000))))] [] M' nc1 ns1 Q) :
    zX Z l 5 mth_X16_visits 95 [(0, .ref (Λ 1001)), (1, .int (nI m)), (2, .int (nI jv)), (3, .ref (Λ (1150 + jv))), (5, .ref (Λ (1100 + p))), (6, .ref (Λ (1140 + a)))] [] M (nc1 + 1) (ns1 + 4) Q := by
  have hb6 : sc S 1000 ≤ 6 := hR.bnd.2.1.1
  refine zs_iconst (v := 0) (n := 96) dX16_visits_95 (by decide) rfl ?_
  refine zs_istore (n := 98) dX16_visits_96 (by decide) rfl ?_
  refine zs_aload_n (n := 99) dX16_visits_98 rfl rfl ?_
  refine zs_getr (b := (Λ 1015)) (n := 102) dX16_visits_99 gf_X16_10 (hR.kd (lvM h4 (by omega))) (hR.pt (lvM h4 (by omega)) rfl (by decide)) rfl ?_
  refine zi_new (r := 1015) (nc1 := nc1) (ns1 := ns1) (n := 105) 3000 dX16_visits_102 rfl hR (lvM h4 (by omega)) rfl (by decide) (by simp) (by omega) (by omega) (by omega) rfl ?_
  intro q102 M hR1 hI102 hq102 hag102
  have hR := hR1
  refine zs_astore (n := 107) dX16_visits_105 (by decide) rfl ?_
  refine zX.sub (L' := [(0, .ref (Λ 1001)), (1, .int (nI m)), (2, .int (nI jv)), (3, .ref (Λ (1150 + jv))), (5, .ref (Λ (1100 + p))), (6, .ref (Λ (1140 + a))), (7, .int (zb (fNrM S p m 0))), (8, .ref q102)]) ⟨rfl, rfl, rfl, rfl, rfl, rfl, rfl, rfl, trivial⟩ ?_
  refine zloop (n := sc S 1000) (X := fun j => ∀ M, zRp Z Λ S M ∧ zIt M q102 (Λ 1015) j 3000 → zX Z l 5 mth_X16_visits 107 [(0, .ref (Λ 1001)), (1, .int (nI m)), (2, .int (nI jv)), (3, .ref (Λ (1150 + jv))), (5, .ref (Λ (1100 + p))), (6, .ref (Λ (1140 + a))), (7, .int (zb (fNrM S p m j))), (8, .ref q102)] [] M nc1 ns1 Q) (fun j hj ih => ?_) ?_ 0 (Nat.zero_le _) M ?_
  · intro M hR9
    obtain ⟨hR, hI102⟩ := hR9
    have hb9107 : sc S 1000 ≤ _ := hR.bnd.2.1.1
    refine zs_aload (n := 109) dX16_visits_107 rfl rfl ?_
    refine zi_has (r := 1015) (j := j) (n := 114) dX16_visits_109 rfl hR (lvM h4 (by omega)) rfl hI102 (by rw [show zct (sc S) 1015 = sc S 1000 from rfl]; omega) (by simp) (by omega) rfl ?_
    rw [show zct (sc S) 1015 = sc S 1000 from rfl]
    refine zs_if_eq (tgt := 181) (n := 117) dX16_visits_114 (by decide) rfl (fun h => absurd h (zb1.mpr (by rw [decide_eq_false (by omega)]; rfl))) (fun _ => ?_)
    refine zs_aload (n := 119) dX16_visits_117 rfl rfl ?_
    refine zi_next (r := 1015) (j := j) (b := (Λ (1100 + j))) (n := 124) dX16_visits_119 rfl hR (lvM h4 (by omega)) rfl hI102 (by rw [show zct (sc S) 1015 = sc S 1000 from rfl]; exact hj) rfl (by simp) (by omega) rfl ?_
    intro M hR1 hI102n hag119
    have hI102 := hI102n
    have hR := hR1
    refine zs_castS (ci := 18) (n := 127) dX16_visits_124 rfl cl_X16_68 (hR.kP' hj) rfl ?_
    refine zs_astore (n := 129) dX16_visits_127 (by decide) rfl ?_
    refine zs_iload (n := 131) dX16_visits_129 rfl rfl ?_
    refine zs_if_ne (tgt := 171) (n := 134) dX16_visits_131 (by decide) rfl (fun h131 => ?_) (fun h131 => ?_)
    · have hst : fNrM S p m (j + 1) = true := by
        first
        | exact (congrArg (fun b => b || _) (zb1.mp h131)).trans (Bool.true_or _)
        | exact (congrArg (fun b => _ || b) (and3_t (decide_eq_true (p := ¬ j = p) (fun e => h138 (by rw [e]))) (decide_eq_true hat144) (decide_eq_true (Int32.not_le.mp h168)))).trans (Bool.or_true _)
      refine zs_iconst (v := 1) (n := 172) dX16_visits_171 (by decide) rfl ?_
      refine zs_goto (tgt := 176) dX16_visits_172 (by decide) ?_
      refine zs_istore (n := 178) dX16_visits_176 (by decide) rfl ?_
      refine zs_goto (tgt := 107) dX16_visits_178 (by decide) ?_
      refine zX.sub (L' := [(0, .ref (Λ 1001)), (1, .int (nI m)), (2, .int (nI jv)), (3, .ref (Λ (1150 + jv))), (5, .ref (Λ (1100 + p))), (6, .ref (Λ (1140 + a))), (7, .int (zb (fNrM S p m (j + 1)))), (8, .ref q102)]) ⟨rfl, rfl, rfl, rfl, rfl, rfl, (show some (Value.int (1 : Int32)) = some (Value.int (zb (fNrM S p m (j + 1)))) from congrArg (fun z => some (Value.int z)) (by first | (rw [hst]; done) | (rw [hst]; rfl))), rfl, trivial⟩ ?_
      exact ih M ⟨hR, hI102⟩
    · refine zs_aload (n := 136) dX16_visits_134 rfl rfl ?_
      refine zs_aload (n := 138) dX16_visits_136 rfl rfl ?_
      refine zs_acmp_eq (tgt := 175) (n := 141) dX16_visits_138 (by decide) rfl (fun h138 => ?_) (fun h138 => ?_)
      · have hst : fNrM S p m (j + 1) = false := by
          have hX : (decide (¬ j = p) && decide (fAtM S j (nI m) < sc S (1010 + j)) && decide ((if 0 ≤ sV S (1100 + j) 576 - sV S (1100 + p) 576 then sV S (1100 + j) 576 - sV S (1100 + p) 576 else 0 - (sV S (1100 + j) 576 - sV S (1100 + p) 576)) < sV S 1001 686)) = false := by
            first
            | exact and3_f1 (decide_eq_false (fun h => h (by have := (hR.eq (lvP' hj) (lvP' hp)).mp h138; omega)))
            | exact and3_f2 (decide_eq_false hat144)
            | exact and3_f3 (decide_eq_false (Int32.not_lt.mpr h168))
          exact (congrArg (fun b => b || _) (zb0.mp h131)).trans ((Bool.false_or _).trans hX)
        refine zs_iconst (v := 0) (n := 176) dX16_visits_175 (by decide) rfl ?_
        refine zs_istore (n := 178) dX16_visits_176 (by decide) rfl ?_
        refine zs_goto (tgt := 107) dX16_visits_178 (by decide) ?_
        refine zX.sub (L' := [(0, .ref (Λ 1001)), (1, .int (nI m)), (2, .int (nI jv)), (3, .ref (Λ (1150 + jv))), (5, .ref (Λ (1100 + p))), (6, .ref (Λ (1140 + a))), (7, .int (zb (fNrM S p m (j + 1)))), (8, .ref q102)]) ⟨rfl, rfl, rfl, rfl, rfl, rfl, (show some (Value.int (0 : Int32)) = some (Value.int (zb (fNrM S p m (j + 1)))) from congrArg (fun z => some (Value.int z)) (by first | (rw [hst]; done) | (rw [hst]; rfl))), rfl, trivial⟩ ?_
        exact ih M ⟨hR, hI102⟩
      · refine zs_aload (n := 143) dX16_visits_141 rfl rfl ?_
        refine zs_iload_n (n := 144) dX16_visits_143 rfl rfl ?_
        by_cases hat144 : fAtM S j (nI m) < sc S (1010 + j)
        · refine zc_V (n := 147) (As := [.int (nI m)]) (ci := 18) (mc := 0) (ms := 0) (d' := 3) dX16_visits_144 ok_X13_at ⟨ml_X16_226, im_X13_at, sl_X13_at⟩ rfl (hR.kP' hj) rfl (Nat.le_of_ble_eq_true rfl) (by simp) (by omega) (Nat.le_refl _) (Nat.le_refl _) rfl rfl (k_at hR h4 hj rfl hat144) ?_
          refine zs_ifnull (n := 150) dX16_visits_147 rfl ?_
          refine zs_aload (n := 152) dX16_visits_150 rfl rfl ?_
          refine zs_getv (x := (sV S (1100 + j) 576)) (n := 155) dX16_visits_152 gf_X16_70 (hR.kP' hj) (hR.iv (lvP' hj) (by decide) (by decide)) rfl ?_
          refine zs_aload (n := 157) dX16_visits_155 rfl rfl ?_
          refine zs_getv (x := (sV S (1100 + p) 576)) (n := 160) dX16_visits_157 gf_X16_70 (hR.kP' hp) (hR.iv (lvP' hp) (by decide) (by decide)) rfl ?_
          refine zs_isub (n := 161) dX16_visits_160 rfl ?_
          refine zs_abs (n := 164) dX16_visits_161 ⟨⟨tw_8 _ (List.mem_of_getElem? (i := 41) (by decide +kernel)), by decide +kernel⟩, w_a1, w_m2, w_a3⟩ (by simp) rfl ?_
          refine zs_aload_n (n := 165) dX16_visits_164 rfl rfl ?_
          refine zs_getv (x := (sV S 1001 686)) (n := 168) dX16_visits_165 gf_X16_197 (hR.kd (lvM h4 (by omega))) (hR.iv (lvM h4 (by omega)) (by decide) (by decide)) rfl ?_
          refine zs_icmp_ge (tgt := 175) (n := 171) dX16_visits_168 (by decide) rfl (fun h168 => ?_) (fun h168 => ?_)
          · have hst : fNrM S p m (j + 1) = false := by
              have hX : (decide (¬ j = p) && decide (fAtM S j (nI m) < sc S (1010 + j)) && decide ((if 0 ≤ sV S (1100 + j) 576 - sV S (1100 + p) 576 then sV S (1100 + j) 576 - sV S (1100 + p) 576 else 0 - (sV S (1100 + j) 576 - sV S (1100 + p) 576)) < sV S 1001 686)) = false := by
                first
                | exact and3_f1 (decide_eq_false (fun h => h (by have := (hR.eq (lvP' hj) (lvP' hp)).mp h138; omega)))
                | exact and3_f2 (decide_eq_false hat144)
                | exact and3_f3 (decide_eq_false (Int32.not_lt.mpr h168))
              exact (congrArg (fun b => b || _) (zb0.mp h131)).trans ((Bool.false_or _).trans hX)
            refine zs_iconst (v := 0) (n := 176) dX16_visits_175 (by decide) rfl ?_
            refine zs_istore (n := 178) dX16_visits_176 (by decide) rfl ?_
            refine zs_goto (tgt := 107) dX16_visits_178 (by decide) ?_
            refine zX.sub (L' := [(0, .ref (Λ 1001)), (1, .int (nI m)), (2, .int (nI jv)), (3, .ref (Λ (1150 + jv))), (5, .ref (Λ (1100 + p))), (6, .ref (Λ (1140 + a))), (7, .int (zb (fNrM S p m (j + 1)))), (8, .ref q102)]) ⟨rfl, rfl, rfl, rfl, rfl, rfl, (show some (Value.int (0 : Int32)) = some (Value.int (zb (fNrM S p m (j + 1)))) from congrArg (fun z => some (Value.int z)) (by first | (rw [hst]; done) | (rw [hst]; rfl))), rfl, trivial⟩ ?_
            exact ih M ⟨hR, hI102⟩
          · have hst : fNrM S p m (j + 1) = true := by
              first
              | exact (congrArg (fun b => b || _) (zb1.mp h131)).trans (Bool.true_or _)
              | exact (congrArg (fun b => _ || b) (and3_t (decide_eq_true (p := ¬ j = p) (fun e => h138 (by rw [e]))) (decide_eq_true hat144) (decide_eq_true (Int32.not_le.mp h168)))).trans (Bool.or_true _)
            refine zs_iconst (v := 1) (n := 172) dX16_visits_171 (by decide) rfl ?_
            refine zs_goto (tgt := 176) dX16_visits_172 (by decide) ?_
            refine zs_istore (n := 178) dX16_visits_176 (by decide) rfl ?_
            refine zs_goto (tgt := 107) dX16_visits_178 (by decide) ?_
            refine zX.sub (L' := [(0, .ref (Λ 1001)), (1, .int (nI m)), (2, .int (nI jv)), (3, .ref (Λ (1150 + jv))), (5, .ref (Λ (1100 + p))), (6, .ref (Λ (1140 + a))), (7, .int (zb (fNrM S p m (j + 1)))), (8, .ref q102)]) ⟨rfl, rfl, rfl, rfl, rfl, rfl, (show some (Value.int (1 : Int32)) = some (Value.int (zb (fNrM S p m (j + 1)))) from congrArg (fun z => some (Value.int z)) (by first | (rw [hst]; done) | (rw [hst]; rfl))), rfl, trivial⟩ ?_
            exact ih M ⟨hR, hI102⟩
        · refine zc_V (n := 147) (As := [.int (nI m)]) (ci := 18) (mc := 0) (ms := 0) (d' := 3) dX16_visits_144 ok_X13_at ⟨ml_X16_226, im_X13_at, sl_X13_at⟩ rfl (hR.kP' hj) rfl (Nat.le_of_ble_eq_true rfl) (by simp) (by omega) (Nat.le_refl _) (Nat.le_refl _) rfl rfl (k_at_no hR h4 hj hat144) ?_
          refine zs_ifnullN (tgt := 175) dX16_visits_147 (by decide) ?_
          have hst : fNrM S p m (j + 1) = false := by
            have hX : (decide (¬ j = p) && decide (fAtM S j (nI m) < sc S (1010 + j)) && decide ((if 0 ≤ sV S (1100 + j) 576 - sV S (1100 + p) 576 then sV S (1100 + j) 576 - sV S (1100 + p) 576 else 0 - (sV S (1100 + j) 576 - sV S (1100 + p) 576)) < sV S 1001 686)) = false := by
              first
              | exact and3_f1 (decide_eq_false (fun h => h (by have := (hR.eq (lvP' hj) (lvP' hp)).mp h138; omega)))
              | exact and3_f2 (decide_eq_false hat144)
              | exact and3_f3 (decide_eq_false (Int32.not_lt.mpr h168))
            exact (congrArg (fun b => b || _) (zb0.mp h131)).trans ((Bool.false_or _).trans hX)
          refine zs_iconst (v := 0) (n := 176) dX16_visits_175 (by decide) rfl ?_
          refine zs_istore (n := 178) dX16_visits_176 (by decide) rfl ?_
          refine zs_goto (tgt := 107) dX16_visits_178 (by decide) ?_
          refine zX.sub (L' := [(0, .ref (Λ 1001)), (1, .int (nI m)), (2, .int (nI jv)), (3, .ref (Λ (1150 + jv))), (5, .ref (Λ (1100 + p))), (6, .ref (Λ (1140 + a))), (7, .int (zb (fNrM S p m (j + 1)))), (8, .ref q102)]) ⟨rfl, rfl, rfl, rfl, rfl, rfl, (show some (Value.int (0 : Int32)) = some (Value.int (zb (fNrM S p m (j + 1)))) from congrArg (fun z => some (Value.int z)) (by first | (rw [hst]; done) | (rw [hst]; rfl))), rfl, trivial⟩ ?_
          exact ih M ⟨hR, hI102⟩
  · intro M hR9
    obtain ⟨hR, hI102⟩ := hR9
    have hb9107 : sc S 1000 ≤ _ := hR.bnd.2.1.1
    refine zs_aload (n := 109) dX16_visits_107 rfl rfl ?_
    refine zi_has (r := 1015) (j := sc S 1000) (n := 114) dX16_visits_109 rfl hR (lvM h4 (by omega)) rfl hI102 (by rw [show zct (sc S) 1015 = sc S 1000 from rfl]; omega) (by simp) (by omega) rfl ?_
    rw [show zct (sc S) 1015 = sc S 1000 from rfl]
    refine zs_if_eq (tgt := 181) (n := 117) dX16_visits_114 (by decide) rfl (fun _ => ?_) (fun h => absurd (zb0.mpr (by rw [decide_eq_true rfl]; rfl)) h)
    refine zX.sub (L' := [(0, .ref (Λ 1001)), (1, .int (nI m)), (2, .int (nI jv)), (3, .ref (Λ (1150 + jv))), (5, .ref (Λ (1100 + p))), (6, .ref (Λ (1140 + a))), (7, .int (zb (fNrM S p m (sc S 1000))))]) ⟨rfl, rfl, rfl, rfl, rfl, rfl, rfl, trivial⟩ ?_
    exact kk M hR
  · exact ⟨hR, hI102⟩
theorem k_vE000 {jv p a m : Nat} (hR : zRp Z Λ S M) (h4 : sc S 4 = 1) (hjv : jv < sc S 1002) (hp : p < sc S 1000) (ha : a < sc S 1001) (kk : ∀ M', zRp Z Λ (wV S (fVsM S jv a false false false)) M' → zX Z l 5 mth_X16_visits 333 [(0, .ref (Λ 1001)), (1, .int (nI m)), (2, .int (nI jv))] [] M' nc1 ns1 Q) :
    zX Z l 5 mth_X16_visits 232 [(0, .ref (Λ 1001)), (1, .int (nI m)), (2, .int (nI jv)), (3, .ref (Λ (1150 + jv))), (5, .ref (Λ (1100 + p))), (6, .ref (Λ (1140 + a))), (7, .int 0), (8, .int 0), (9, .int 0)] [] M nc1 ns1 Q := by
  refine zs_aload_n (n := 233) dX16_visits_232 rfl rfl ?_
  refine zs_iload (n := 235) dX16_visits_233 rfl rfl ?_
  refine zs_if_eq (tgt := 243) (n := 238) dX16_visits_235 (by decide) rfl (fun _ => ?_) (fun h => absurd (by decide) h)
  refine zs_iconst (v := 0) (n := 244) dX16_visits_243 (by decide) rfl ?_
  refine zs_iload (n := 246) dX16_visits_244 rfl rfl ?_
  refine zs_if_eq (tgt := 254) (n := 249) dX16_visits_246 (by decide) rfl (fun _ => ?_) (fun h => absurd (by decide) h)
  refine zs_iconst (v := 0) (n := 255) dX16_visits_254 (by decide) rfl ?_
  refine zs_iadd (n := 256) dX16_visits_255 rfl ?_
  refine zs_iload (n := 258) dX16_visits_256 rfl rfl ?_
  refine zs_if_eq (tgt := 265) (n := 261) dX16_visits_258 (by decide) rfl (fun _ => ?_) (fun h => absurd (by decide) h)
  refine zs_iconst (v := 0) (n := 266) dX16_visits_265 (by decide) rfl ?_
  refine zs_iadd (n := 267) dX16_visits_266 rfl ?_
  rw [show (((0 : Int32) + (0 : Int32)) + (0 : Int32)) = (fSumV false false false) from rfl]
  refine zw_i (r := (1150 + jv)) (n := 270) dX16_visits_267 pf_X16_visits_244 hR (lvV' hjv) (hR.kV' hjv) ⟨rfl, rfl⟩ (by decide) rfl ?_
  intro M hR hv
  refine zs_aload_n (n := 271) dX16_visits_270 rfl rfl ?_
  refine zs_iload (n := 273) dX16_visits_271 rfl rfl ?_
  refine zs_if_eq (tgt := 281) (n := 276) dX16_visits_273 (by decide) rfl (fun _ => ?_) (fun h => absurd (by decide) h)
  refine zs_iload (n := 283) dX16_visits_281 rfl rfl ?_
  refine zs_if_eq (tgt := 291) (n := 286) dX16_visits_283 (by decide) rfl (fun _ => ?_) (fun h => absurd (by decide) h)
  refine zs_iload (n := 293) dX16_visits_291 rfl rfl ?_
  refine zs_if_eq (tgt := 301) (n := 296) dX16_visits_293 (by decide) rfl (fun _ => ?_) (fun h => absurd (by decide) h)
  refine zs_bipush (v := 45) (n := 303) dX16_visits_301 (by decide) rfl ?_
  refine zw_i (r := (1150 + jv)) (n := 306) dX16_visits_303 pf_X16_visits_247 hR (lvV' hjv) (hR.kV' hjv) (by constructor <;> decide) (by decide) rfl ?_
  intro M hR hv
  refine zs_aload (n := 308) dX16_visits_306 rfl rfl ?_
  refine zs_dup (n := 309) dX16_visits_308 rfl rfl ?_
  refine zs_getv (x := (sV S (1140 + a) 550)) (n := 312) dX16_visits_309 gf_X16_251 (hR.kA' ha) (hR.iv (lvA' ha) (by decide) (by decide)) rfl ?_
  refine zs_aload_n (n := 313) dX16_visits_312 rfl rfl ?_
  refine zs_getv (x := ((u2 (sV S) (1150 + jv) 643 (fSumV false false false)) (1150 + jv) 643)) (n := 316) dX16_visits_313 gf_X16_244 (hR.kV' hjv) (hR.iv (lvV' hjv) (by decide) (by decide)) rfl ?_
  rw [show ((u2 (sV S) (1150 + jv) 643 (fSumV false false false)) (1150 + jv) 643) = (fSumV false false false) from u2_at]
  refine zs_isub (n := 317) dX16_visits_316 rfl ?_
  refine zw_i (r := (1140 + a)) (n := 320) dX16_visits_317 pf_X16_visits_251 hR (lvA' ha) (hR.kA' ha) ⟨rfl, rfl⟩ (by decide) rfl ?_
  intro M hR hv
  refine zs_aload_n (n := 321) dX16_visits_320 rfl rfl ?_
  refine zs_dup (n := 322) dX16_visits_321 rfl rfl ?_
  refine zs_getv (x := (sV S 1001 689)) (n := 325) dX16_visits_322 gf_X16_254 (hR.kd (lvM h4 (by omega))) (hR.iv (lvM h4 (by omega)) (by decide) (by decide)) rfl ?_
  refine zs_aload_n (n := 326) dX16_visits_325 rfl rfl ?_
  refine zs_getv (x := ((u2 (sV S) (1150 + jv) 643 (fSumV false false false)) (1150 + jv) 643)) (n := 329) dX16_visits_326 gf_X16_244 (hR.kV' hjv) (hR.iv (lvV' hjv) (by decide) (by decide)) rfl ?_
  rw [show ((u2 (sV S) (1150 + jv) 643 (fSumV false false false)) (1150 + jv) 643) = (fSumV false false false) from u2_at]
  refine zs_iadd (n := 330) dX16_visits_329 rfl ?_
  refine zw_i (r := 1001) (n := 333) dX16_visits_330 pf_X16_visits_254 hR (lvM h4 (by omega)) (hR.kd (lvM h4 (by omega))) ⟨rfl, rfl⟩ (by decide) rfl ?_
  intro M hR hv
  refine zX.sub (L' := [(0, .ref (Λ 1001)), (1, .int (nI m)), (2, .int (nI jv))]) ⟨rfl, rfl, rfl, trivial⟩ ?_
  exact kk M hR
theorem k_vE001 {jv p a m : Nat} (hR : zRp Z Λ S M) (h4 : sc S 4 = 1) (hjv : jv < sc S 1002) (hp : p < sc S 1000) (ha : a < sc S 1001) (kk : ∀ M', zRp Z Λ (wV S (fVsM S jv a false false true)) M' → zX Z l 5 mth_X16_visits 333 [(0, .ref (Λ 1001)), (1, .int (nI m)), (2, .int (nI jv))] [] M' nc1 ns1 Q) :
    zX Z l 5 mth_X16_visits 232 [(0, .ref (Λ 1001)), (1, .int (nI m)), (2, .int (nI jv)), (3, .ref (Λ (1150 + jv))), (5, .ref (Λ (1100 + p))), (6, .ref (Λ (1140 + a))), (7, .int 1), (8, .int 0), (9, .int 0)] [] M nc1 ns1 Q := by
  refine zs_aload_n (n := 233) dX16_visits_232 rfl rfl ?_
  refine zs_iload (n := 235) dX16_visits_233 rfl rfl ?_
  refine zs_if_eq (tgt := 243) (n := 238) dX16_visits_235 (by decide) rfl (fun _ => ?_) (fun h => absurd (by decide) h)
  refine zs_iconst (v := 0) (n := 244) dX16_visits_243 (by decide) rfl ?_
  refine zs_iload (n := 246) dX16_visits_244 rfl rfl ?_
  refine zs_if_eq (tgt := 254) (n := 249) dX16_visits_246 (by decide) rfl (fun _ => ?_) (fun h => absurd (by decide) h)
  refine zs_iconst (v := 0) (n := 255) dX16_visits_254 (by decide) rfl ?_
  refine zs_iadd (n := 256) dX16_visits_255 rfl ?_
  refine zs_iload (n := 258) dX16_visits_256 rfl rfl ?_
  refine zs_if_eq (tgt := 265) (n := 261) dX16_visits_258 (by decide) rfl (fun h => absurd h (by decide)) (fun _ => ?_)
  refine zs_iconst (v := 5) (n := 262) dX16_visits_261 (by decide) rfl ?_
  refine zs_goto (tgt := 266) dX16_visits_262 (by decide) ?_
  refine zs_iadd (n := 267) dX16_visits_266 rfl ?_
  rw [show (((0 : Int32) + (0 : Int32)) + (5 : Int32)) = (fSumV false false true) from rfl]
  refine zw_i (r := (1150 + jv)) (n := 270) dX16_visits_267 pf_X16_visits_244 hR (lvV' hjv) (hR.kV' hjv) ⟨rfl, rfl⟩ (by decide) rfl ?_
  intro M hR hv
  refine zs_aload_n (n := 271) dX16_visits_270 rfl rfl ?_
  refine zs_iload (n := 273) dX16_visits_271 rfl rfl ?_
  refine zs_if_eq (tgt := 281) (n := 276) dX16_visits_273 (by decide) rfl (fun _ => ?_) (fun h => absurd (by decide) h)
  refine zs_iload (n := 283) dX16_visits_281 rfl rfl ?_
  refine zs_if_eq (tgt := 291) (n := 286) dX16_visits_283 (by decide) rfl (fun _ => ?_) (fun h => absurd (by decide) h)
  refine zs_iload (n := 293) dX16_visits_291 rfl rfl ?_
  refine zs_if_eq (tgt := 301) (n := 296) dX16_visits_293 (by decide) rfl (fun h => absurd h (by decide)) (fun _ => ?_)
  refine zs_bipush (v := 100) (n := 298) dX16_visits_296 (by decide) rfl ?_
  refine zs_goto (tgt := 303) dX16_visits_298 (by decide) ?_
  refine zw_i (r := (1150 + jv)) (n := 306) dX16_visits_303 pf_X16_visits_247 hR (lvV' hjv) (hR.kV' hjv) (by constructor <;> decide) (by decide) rfl ?_
  intro M hR hv
  refine zs_aload (n := 308) dX16_visits_306 rfl rfl ?_
  refine zs_dup (n := 309) dX16_visits_308 rfl rfl ?_
  refine zs_getv (x := (sV S (1140 + a) 550)) (n := 312) dX16_visits_309 gf_X16_251 (hR.kA' ha) (hR.iv (lvA' ha) (by decide) (by decide)) rfl ?_
  refine zs_aload_n (n := 313) dX16_visits_312 rfl rfl ?_
  refine zs_getv (x := ((u2 (sV S) (1150 + jv) 643 (fSumV false false true)) (1150 + jv) 643)) (n := 316) dX16_visits_313 gf_X16_244 (hR.kV' hjv) (hR.iv (lvV' hjv) (by decide) (by decide)) rfl ?_
  rw [show ((u2 (sV S) (1150 + jv) 643 (fSumV false false true)) (1150 + jv) 643) = (fSumV false false true) from u2_at]
  refine zs_isub (n := 317) dX16_visits_316 rfl ?_
  refine zw_i (r := (1140 + a)) (n := 320) dX16_visits_317 pf_X16_visits_251 hR (lvA' ha) (hR.kA' ha) ⟨rfl, rfl⟩ (by decide) rfl ?_
  intro M hR hv
  refine zs_aload_n (n := 321) dX16_visits_320 rfl rfl ?_
  refine zs_dup (n := 322) dX16_visits_321 rfl rfl ?_
  refine zs_getv (x := (sV S 1001 689)) (n := 325) dX16_visits_322 gf_X16_254 (hR.kd (lvM h4 (by omega))) (hR.iv (lvM h4 (by omega)) (by decide) (by decide)) rfl ?_
  refine zs_aload_n (n := 326) dX16_visits_325 rfl rfl ?_
  refine zs_getv (x := ((u2 (sV S) (1150 + jv) 643 (fSumV false false true)) (1150 + jv) 643)) (n := 329) dX16_visits_326 gf_X16_244 (hR.kV' hjv) (hR.iv (lvV' hjv) (by decide) (by decide)) rfl ?_
  rw [show ((u2 (sV S) (1150 + jv) 643 (fSumV false false true)) (1150 + jv) 643) = (fSumV false false true) from u2_at]
  refine zs_iadd (n := 330) dX16_visits_329 rfl ?_
  refine zw_i (r := 1001) (n := 333) dX16_visits_330 pf_X16_visits_254 hR (lvM h4 (by omega)) (hR.kd (lvM h4 (by omega))) ⟨rfl, rfl⟩ (by decide) rfl ?_
  intro M hR hv
  refine zX.sub (L' := [(0, .ref (Λ 1001)), (1, .int (nI m)), (2, .int (nI jv))]) ⟨rfl, rfl, rfl, trivial⟩ ?_
  exact kk M hR
theorem k_vE010 {jv p a m : Nat} (hR : zRp Z Λ S M) (h4 : sc S 4 = 1) (hjv : jv < sc S 1002) (hp : p < sc S 1000) (ha : a < sc S 1001) (kk : ∀ M', zRp Z Λ (wV S (fVsM S jv a false true false)) M' → zX Z l 5 mth_X16_visits 333 [(0, .ref (Λ 1001)), (1, .int (nI m)), (2, .int (nI jv))] [] M' nc1 ns1 Q) :
    zX Z l 5 mth_X16_visits 232 [(0, .ref (Λ 1001)), (1, .int (nI m)), (2, .int (nI jv)), (3, .ref (Λ (1150 + jv))), (5, .ref (Λ (1100 + p))), (6, .ref (Λ (1140 + a))), (7, .int 0), (8, .int 0), (9, .int 1)] [] M nc1 ns1 Q := by
  refine zs_aload_n (n := 233) dX16_visits_232 rfl rfl ?_
  refine zs_iload (n := 235) dX16_visits_233 rfl rfl ?_
  refine zs_if_eq (tgt := 243) (n := 238) dX16_visits_235 (by decide) rfl (fun _ => ?_) (fun h => absurd (by decide) h)
  refine zs_iconst (v := 0) (n := 244) dX16_visits_243 (by decide) rfl ?_
  refine zs_iload (n := 246) dX16_visits_244 rfl rfl ?_
  refine zs_if_eq (tgt := 254) (n := 249) dX16_visits_246 (by decide) rfl (fun h => absurd h (by decide)) (fun _ => ?_)
  refine zs_bipush (v := 10) (n := 251) dX16_visits_249 (by decide) rfl ?_
  refine zs_goto (tgt := 255) dX16_visits_251 (by decide) ?_
  refine zs_iadd (n := 256) dX16_visits_255 rfl ?_
  refine zs_iload (n := 258) dX16_visits_256 rfl rfl ?_
  refine zs_if_eq (tgt := 265) (n := 261) dX16_visits_258 (by decide) rfl (fun _ => ?_) (fun h => absurd (by decide) h)
  refine zs_iconst (v := 0) (n := 266) dX16_visits_265 (by decide) rfl ?_
  refine zs_iadd (n := 267) dX16_visits_266 rfl ?_
  rw [show (((0 : Int32) + (10 : Int32)) + (0 : Int32)) = (fSumV false true false) from rfl]
  refine zw_i (r := (1150 + jv)) (n := 270) dX16_visits_267 pf_X16_visits_244 hR (lvV' hjv) (hR.kV' hjv) ⟨rfl, rfl⟩ (by decide) rfl ?_
  intro M hR hv
  refine zs_aload_n (n := 271) dX16_visits_270 rfl rfl ?_
  refine zs_iload (n := 273) dX16_visits_271 rfl rfl ?_
  refine zs_if_eq (tgt := 281) (n := 276) dX16_visits_273 (by decide) rfl (fun _ => ?_) (fun h => absurd (by decide) h)
  refine zs_iload (n := 283) dX16_visits_281 rfl rfl ?_
  refine zs_if_eq (tgt := 291) (n := 286) dX16_visits_283 (by decide) rfl (fun h => absurd h (by decide)) (fun _ => ?_)
  refine zs_bipush (v := 110) (n := 288) dX16_visits_286 (by decide) rfl ?_
  refine zs_goto (tgt := 303) dX16_visits_288 (by decide) ?_
  refine zw_i (r := (1150 + jv)) (n := 306) dX16_visits_303 pf_X16_visits_247 hR (lvV' hjv) (hR.kV' hjv) (by constructor <;> decide) (by decide) rfl ?_
  intro M hR hv
  refine zs_aload (n := 308) dX16_visits_306 rfl rfl ?_
  refine zs_dup (n := 309) dX16_visits_308 rfl rfl ?_
  refine zs_getv (x := (sV S (1140 + a) 550)) (n := 312) dX16_visits_309 gf_X16_251 (hR.kA' ha) (hR.iv (lvA' ha) (by decide) (by decide)) rfl ?_
  refine zs_aload_n (n := 313) dX16_visits_312 rfl rfl ?_
  refine zs_getv (x := ((u2 (sV S) (1150 + jv) 643 (fSumV false true false)) (1150 + jv) 643)) (n := 316) dX16_visits_313 gf_X16_244 (hR.kV' hjv) (hR.iv (lvV' hjv) (by decide) (by decide)) rfl ?_
  rw [show ((u2 (sV S) (1150 + jv) 643 (fSumV false true false)) (1150 + jv) 643) = (fSumV false true false) from u2_at]
  refine zs_isub (n := 317) dX16_visits_316 rfl ?_
  refine zw_i (r := (1140 + a)) (n := 320) dX16_visits_317 pf_X16_visits_251 hR (lvA' ha) (hR.kA' ha) ⟨rfl, rfl⟩ (by decide) rfl ?_
  intro M hR hv
  refine zs_aload_n (n := 321) dX16_visits_320 rfl rfl ?_
  refine zs_dup (n := 322) dX16_visits_321 rfl rfl ?_
  refine zs_getv (x := (sV S 1001 689)) (n := 325) dX16_visits_322 gf_X16_254 (hR.kd (lvM h4 (by omega))) (hR.iv (lvM h4 (by omega)) (by decide) (by decide)) rfl ?_
  refine zs_aload_n (n := 326) dX16_visits_325 rfl rfl ?_
  refine zs_getv (x := ((u2 (sV S) (1150 + jv) 643 (fSumV false true false)) (1150 + jv) 643)) (n := 329) dX16_visits_326 gf_X16_244 (hR.kV' hjv) (hR.iv (lvV' hjv) (by decide) (by decide)) rfl ?_
  rw [show ((u2 (sV S) (1150 + jv) 643 (fSumV false true false)) (1150 + jv) 643) = (fSumV false true false) from u2_at]
  refine zs_iadd (n := 330) dX16_visits_329 rfl ?_
  refine zw_i (r := 1001) (n := 333) dX16_visits_330 pf_X16_visits_254 hR (lvM h4 (by omega)) (hR.kd (lvM h4 (by omega))) ⟨rfl, rfl⟩ (by decide) rfl ?_
  intro M hR hv
  refine zX.sub (L' := [(0, .ref (Λ 1001)), (1, .int (nI m)), (2, .int (nI jv))]) ⟨rfl, rfl, rfl, trivial⟩ ?_
  exact kk M hR
theorem k_vE011 {jv p a m : Nat} (hR : zRp Z Λ S M) (h4 : sc S 4 = 1) (hjv : jv < sc S 1002) (hp : p < sc S 1000) (ha : a < sc S 1001) (kk : ∀ M', zRp Z Λ (wV S (fVsM S jv a false true true)) M' → zX Z l 5 mth_X16_visits 333 [(0, .ref (Λ 1001)), (1, .int (nI m)), (2, .int (nI jv))] [] M' nc1 ns1 Q) :
    zX Z l 5 mth_X16_visits 232 [(0, .ref (Λ 1001)), (1, .int (nI m)), (2, .int (nI jv)), (3, .ref (Λ (1150 + jv))), (5, .ref (Λ (1100 + p))), (6, .ref (Λ (1140 + a))), (7, .int 1), (8, .int 0), (9, .int 1)] [] M nc1 ns1 Q := by
  refine zs_aload_n (n := 233) dX16_visits_232 rfl rfl ?_
  refine zs_iload (n := 235) dX16_visits_233 rfl rfl ?_
  refine zs_if_eq (tgt := 243) (n := 238) dX16_visits_235 (by decide) rfl (fun _ => ?_) (fun h => absurd (by decide) h)
  refine zs_iconst (v := 0) (n := 244) dX16_visits_243 (by decide) rfl ?_
  refine zs_iload (n := 246) dX16_visits_244 rfl rfl ?_
  refine zs_if_eq (tgt := 254) (n := 249) dX16_visits_246 (by decide) rfl (fun h => absurd h (by decide)) (fun _ => ?_)
  refine zs_bipush (v := 10) (n := 251) dX16_visits_249 (by decide) rfl ?_
  refine zs_goto (tgt := 255) dX16_visits_251 (by decide) ?_
  refine zs_iadd (n := 256) dX16_visits_255 rfl ?_
  refine zs_iload (n := 258) dX16_visits_256 rfl rfl ?_
  refine zs_if_eq (tgt := 265) (n := 261) dX16_visits_258 (by decide) rfl (fun h => absurd h (by decide)) (fun _ => ?_)
  refine zs_iconst (v := 5) (n := 262) dX16_visits_261 (by decide) rfl ?_
  refine zs_goto (tgt := 266) dX16_visits_262 (by decide) ?_
  refine zs_iadd (n := 267) dX16_visits_266 rfl ?_
  rw [show (((0 : Int32) + (10 : Int32)) + (5 : Int32)) = (fSumV false true true) from rfl]
  refine zw_i (r := (1150 + jv)) (n := 270) dX16_visits_267 pf_X16_visits_244 hR (lvV' hjv) (hR.kV' hjv) ⟨rfl, rfl⟩ (by decide) rfl ?_
  intro M hR hv
  refine zs_aload_n (n := 271) dX16_visits_270 rfl rfl ?_
  refine zs_iload (n := 273) dX16_visits_271 rfl rfl ?_
  refine zs_if_eq (tgt := 281) (n := 276) dX16_visits_273 (by decide) rfl (fun _ => ?_) (fun h => absurd (by decide) h)
  refine zs_iload (n := 283) dX16_visits_281 rfl rfl ?_
  refine zs_if_eq (tgt := 291) (n := 286) dX16_visits_283 (by decide) rfl (fun h => absurd h (by decide)) (fun _ => ?_)
  refine zs_bipush (v := 110) (n := 288) dX16_visits_286 (by decide) rfl ?_
  refine zs_goto (tgt := 303) dX16_visits_288 (by decide) ?_
  refine zw_i (r := (1150 + jv)) (n := 306) dX16_visits_303 pf_X16_visits_247 hR (lvV' hjv) (hR.kV' hjv) (by constructor <;> decide) (by decide) rfl ?_
  intro M hR hv
  refine zs_aload (n := 308) dX16_visits_306 rfl rfl ?_
  refine zs_dup (n := 309) dX16_visits_308 rfl rfl ?_
  refine zs_getv (x := (sV S (1140 + a) 550)) (n := 312) dX16_visits_309 gf_X16_251 (hR.kA' ha) (hR.iv (lvA' ha) (by decide) (by decide)) rfl ?_
  refine zs_aload_n (n := 313) dX16_visits_312 rfl rfl ?_
  refine zs_getv (x := ((u2 (sV S) (1150 + jv) 643 (fSumV false true true)) (1150 + jv) 643)) (n := 316) dX16_visits_313 gf_X16_244 (hR.kV' hjv) (hR.iv (lvV' hjv) (by decide) (by decide)) rfl ?_
  rw [show ((u2 (sV S) (1150 + jv) 643 (fSumV false true true)) (1150 + jv) 643) = (fSumV false true true) from u2_at]
  refine zs_isub (n := 317) dX16_visits_316 rfl ?_
  refine zw_i (r := (1140 + a)) (n := 320) dX16_visits_317 pf_X16_visits_251 hR (lvA' ha) (hR.kA' ha) ⟨rfl, rfl⟩ (by decide) rfl ?_
  intro M hR hv
  refine zs_aload_n (n := 321) dX16_visits_320 rfl rfl ?_
  refine zs_dup (n := 322) dX16_visits_321 rfl rfl ?_
  refine zs_getv (x := (sV S 1001 689)) (n := 325) dX16_visits_322 gf_X16_254 (hR.kd (lvM h4 (by omega))) (hR.iv (lvM h4 (by omega)) (by decide) (by decide)) rfl ?_
  refine zs_aload_n (n := 326) dX16_visits_325 rfl rfl ?_
  refine zs_getv (x := ((u2 (sV S) (1150 + jv) 643 (fSumV false true true)) (1150 + jv) 643)) (n := 329) dX16_visits_326 gf_X16_244 (hR.kV' hjv) (hR.iv (lvV' hjv) (by decide) (by decide)) rfl ?_
  rw [show ((u2 (sV S) (1150 + jv) 643 (fSumV false true true)) (1150 + jv) 643) = (fSumV false true true) from u2_at]
  refine zs_iadd (n := 330) dX16_visits_329 rfl ?_
  refine zw_i (r := 1001) (n := 333) dX16_visits_330 pf_X16_visits_254 hR (lvM h4 (by omega)) (hR.kd (lvM h4 (by omega))) ⟨rfl, rfl⟩ (by decide) rfl ?_
  intro M hR hv
  refine zX.sub (L' := [(0, .ref (Λ 1001)), (1, .int (nI m)), (2, .int (nI jv))]) ⟨rfl, rfl, rfl, trivial⟩ ?_
  exact kk M hR
theorem k_vE100 {jv p a m : Nat} (hR : zRp Z Λ S M) (h4 : sc S 4 = 1) (hjv : jv < sc S 1002) (hp : p < sc S 1000) (ha : a < sc S 1001) (kk : ∀ M', zRp Z Λ (wV S (fVsM S jv a true false false)) M' → zX Z l 5 mth_X16_visits 333 [(0, .ref (Λ 1001)), (1, .int (nI m)), (2, .int (nI jv))] [] M' nc1 ns1 Q) :
    zX Z l 5 mth_X16_visits 232 [(0, .ref (Λ 1001)), (1, .int (nI m)), (2, .int (nI jv)), (3, .ref (Λ (1150 + jv))), (5, .ref (Λ (1100 + p))), (6, .ref (Λ (1140 + a))), (7, .int 0), (8, .int 1), (9, .int 0)] [] M nc1 ns1 Q := by
  refine zs_aload_n (n := 233) dX16_visits_232 rfl rfl ?_
  refine zs_iload (n := 235) dX16_visits_233 rfl rfl ?_
  refine zs_if_eq (tgt := 243) (n := 238) dX16_visits_235 (by decide) rfl (fun h => absurd h (by decide)) (fun _ => ?_)
  refine zs_bipush (v := 20) (n := 240) dX16_visits_238 (by decide) rfl ?_
  refine zs_goto (tgt := 244) dX16_visits_240 (by decide) ?_
  refine zs_iload (n := 246) dX16_visits_244 rfl rfl ?_
  refine zs_if_eq (tgt := 254) (n := 249) dX16_visits_246 (by decide) rfl (fun _ => ?_) (fun h => absurd (by decide) h)
  refine zs_iconst (v := 0) (n := 255) dX16_visits_254 (by decide) rfl ?_
  refine zs_iadd (n := 256) dX16_visits_255 rfl ?_
  refine zs_iload (n := 258) dX16_visits_256 rfl rfl ?_
  refine zs_if_eq (tgt := 265) (n := 261) dX16_visits_258 (by decide) rfl (fun _ => ?_) (fun h => absurd (by decide) h)
  refine zs_iconst (v := 0) (n := 266) dX16_visits_265 (by decide) rfl ?_
  refine zs_iadd (n := 267) dX16_visits_266 rfl ?_
  rw [show (((20 : Int32) + (0 : Int32)) + (0 : Int32)) = (fSumV true false false) from rfl]
  refine zw_i (r := (1150 + jv)) (n := 270) dX16_visits_267 pf_X16_visits_244 hR (lvV' hjv) (hR.kV' hjv) ⟨rfl, rfl⟩ (by decide) rfl ?_
  intro M hR hv
  refine zs_aload_n (n := 271) dX16_visits_270 rfl rfl ?_
  refine zs_iload (n := 273) dX16_visits_271 rfl rfl ?_
  refine zs_if_eq (tgt := 281) (n := 276) dX16_visits_273 (by decide) rfl (fun h => absurd h (by decide)) (fun _ => ?_)
  refine zs_bipush (v := 102) (n := 278) dX16_visits_276 (by decide) rfl ?_
  refine zs_goto (tgt := 303) dX16_visits_278 (by decide) ?_
  refine zw_i (r := (1150 + jv)) (n := 306) dX16_visits_303 pf_X16_visits_247 hR (lvV' hjv) (hR.kV' hjv) (by constructor <;> decide) (by decide) rfl ?_
  intro M hR hv
  refine zs_aload (n := 308) dX16_visits_306 rfl rfl ?_
  refine zs_dup (n := 309) dX16_visits_308 rfl rfl ?_
  refine zs_getv (x := (sV S (1140 + a) 550)) (n := 312) dX16_visits_309 gf_X16_251 (hR.kA' ha) (hR.iv (lvA' ha) (by decide) (by decide)) rfl ?_
  refine zs_aload_n (n := 313) dX16_visits_312 rfl rfl ?_
  refine zs_getv (x := ((u2 (sV S) (1150 + jv) 643 (fSumV true false false)) (1150 + jv) 643)) (n := 316) dX16_visits_313 gf_X16_244 (hR.kV' hjv) (hR.iv (lvV' hjv) (by decide) (by decide)) rfl ?_
  rw [show ((u2 (sV S) (1150 + jv) 643 (fSumV true false false)) (1150 + jv) 643) = (fSumV true false false) from u2_at]
  refine zs_isub (n := 317) dX16_visits_316 rfl ?_
  refine zw_i (r := (1140 + a)) (n := 320) dX16_visits_317 pf_X16_visits_251 hR (lvA' ha) (hR.kA' ha) ⟨rfl, rfl⟩ (by decide) rfl ?_
  intro M hR hv
  refine zs_aload_n (n := 321) dX16_visits_320 rfl rfl ?_
  refine zs_dup (n := 322) dX16_visits_321 rfl rfl ?_
  refine zs_getv (x := (sV S 1001 689)) (n := 325) dX16_visits_322 gf_X16_254 (hR.kd (lvM h4 (by omega))) (hR.iv (lvM h4 (by omega)) (by decide) (by decide)) rfl ?_
  refine zs_aload_n (n := 326) dX16_visits_325 rfl rfl ?_
  refine zs_getv (x := ((u2 (sV S) (1150 + jv) 643 (fSumV true false false)) (1150 + jv) 643)) (n := 329) dX16_visits_326 gf_X16_244 (hR.kV' hjv) (hR.iv (lvV' hjv) (by decide) (by decide)) rfl ?_
  rw [show ((u2 (sV S) (1150 + jv) 643 (fSumV true false false)) (1150 + jv) 643) = (fSumV true false false) from u2_at]
  refine zs_iadd (n := 330) dX16_visits_329 rfl ?_
  refine zw_i (r := 1001) (n := 333) dX16_visits_330 pf_X16_visits_254 hR (lvM h4 (by omega)) (hR.kd (lvM h4 (by omega))) ⟨rfl, rfl⟩ (by decide) rfl ?_
  intro M hR hv
  refine zX.sub (L' := [(0, .ref (Λ 1001)), (1, .int (nI m)), (2, .int (nI jv))]) ⟨rfl, rfl, rfl, trivial⟩ ?_
  exact kk M hR
theorem k_vE101 {jv p a m : Nat} (hR : zRp Z Λ S M) (h4 : sc S 4 = 1) (hjv : jv < sc S 1002) (hp : p < sc S 1000) (ha : a < sc S 1001) (kk : ∀ M', zRp Z Λ (wV S (fVsM S jv a true false true)) M' → zX Z l 5 mth_X16_visits 333 [(0, .ref (Λ 1001)), (1, .int (nI m)), (2, .int (nI jv))] [] M' nc1 ns1 Q) :
    zX Z l 5 mth_X16_visits 232 [(0, .ref (Λ 1001)), (1, .int (nI m)), (2, .int (nI jv)), (3, .ref (Λ (1150 + jv))), (5, .ref (Λ (1100 + p))), (6, .ref (Λ (1140 + a))), (7, .int 1), (8, .int 1), (9, .int 0)] [] M nc1 ns1 Q := by
  refine zs_aload_n (n := 233) dX16_visits_232 rfl rfl ?_
  refine zs_iload (n := 235) dX16_visits_233 rfl rfl ?_
  refine zs_if_eq (tgt := 243) (n := 238) dX16_visits_235 (by decide) rfl (fun h => absurd h (by decide)) (fun _ => ?_)
  refine zs_bipush (v := 20) (n := 240) dX16_visits_238 (by decide) rfl ?_
  refine zs_goto (tgt := 244) dX16_visits_240 (by decide) ?_
  refine zs_iload (n := 246) dX16_visits_244 rfl rfl ?_
  refine zs_if_eq (tgt := 254) (n := 249) dX16_visits_246 (by decide) rfl (fun _ => ?_) (fun h => absurd (by decide) h)
  refine zs_iconst (v := 0) (n := 255) dX16_visits_254 (by decide) rfl ?_
  refine zs_iadd (n := 256) dX16_visits_255 rfl ?_
  refine zs_iload (n := 258) dX16_visits_256 rfl rfl ?_
  refine zs_if_eq (tgt := 265) (n := 261) dX16_visits_258 (by decide) rfl (fun h => absurd h (by decide)) (fun _ => ?_)
  refine zs_iconst (v := 5) (n := 262) dX16_visits_261 (by decide) rfl ?_
  refine zs_goto (tgt := 266) dX16_visits_262 (by decide) ?_
  refine zs_iadd (n := 267) dX16_visits_266 rfl ?_
  rw [show (((20 : Int32) + (0 : Int32)) + (5 : Int32)) = (fSumV true false true) from rfl]
  refine zw_i (r := (1150 + jv)) (n := 270) dX16_visits_267 pf_X16_visits_244 hR (lvV' hjv) (hR.kV' hjv) ⟨rfl, rfl⟩ (by decide) rfl ?_
  intro M hR hv
  refine zs_aload_n (n := 271) dX16_visits_270 rfl rfl ?_
  refine zs_iload (n := 273) dX16_visits_271 rfl rfl ?_
  refine zs_if_eq (tgt := 281) (n := 276) dX16_visits_273 (by decide) rfl (fun h => absurd h (by decide)) (fun _ => ?_)
  refine zs_bipush (v := 102) (n := 278) dX16_visits_276 (by decide) rfl ?_
  refine zs_goto (tgt := 303) dX16_visits_278 (by decide) ?_
  refine zw_i (r := (1150 + jv)) (n := 306) dX16_visits_303 pf_X16_visits_247 hR (lvV' hjv) (hR.kV' hjv) (by constructor <;> decide) (by decide) rfl ?_
  intro M hR hv
  refine zs_aload (n := 308) dX16_visits_306 rfl rfl ?_
  refine zs_dup (n := 309) dX16_visits_308 rfl rfl ?_
  refine zs_getv (x := (sV S (1140 + a) 550)) (n := 312) dX16_visits_309 gf_X16_251 (hR.kA' ha) (hR.iv (lvA' ha) (by decide) (by decide)) rfl ?_
  refine zs_aload_n (n := 313) dX16_visits_312 rfl rfl ?_
  refine zs_getv (x := ((u2 (sV S) (1150 + jv) 643 (fSumV true false true)) (1150 + jv) 643)) (n := 316) dX16_visits_313 gf_X16_244 (hR.kV' hjv) (hR.iv (lvV' hjv) (by decide) (by decide)) rfl ?_
  rw [show ((u2 (sV S) (1150 + jv) 643 (fSumV true false true)) (1150 + jv) 643) = (fSumV true false true) from u2_at]
  refine zs_isub (n := 317) dX16_visits_316 rfl ?_
  refine zw_i (r := (1140 + a)) (n := 320) dX16_visits_317 pf_X16_visits_251 hR (lvA' ha) (hR.kA' ha) ⟨rfl, rfl⟩ (by decide) rfl ?_
  intro M hR hv
  refine zs_aload_n (n := 321) dX16_visits_320 rfl rfl ?_
  refine zs_dup (n := 322) dX16_visits_321 rfl rfl ?_
  refine zs_getv (x := (sV S 1001 689)) (n := 325) dX16_visits_322 gf_X16_254 (hR.kd (lvM h4 (by omega))) (hR.iv (lvM h4 (by omega)) (by decide) (by decide)) rfl ?_
  refine zs_aload_n (n := 326) dX16_visits_325 rfl rfl ?_
  refine zs_getv (x := ((u2 (sV S) (1150 + jv) 643 (fSumV true false true)) (1150 + jv) 643)) (n := 329) dX16_visits_326 gf_X16_244 (hR.kV' hjv) (hR.iv (lvV' hjv) (by decide) (by decide)) rfl ?_
  rw [show ((u2 (sV S) (1150 + jv) 643 (fSumV true false true)) (1150 + jv) 643) = (fSumV true false true) from u2_at]
  refine zs_iadd (n := 330) dX16_visits_329 rfl ?_
  refine zw_i (r := 1001) (n := 333) dX16_visits_330 pf_X16_visits_254 hR (lvM h4 (by omega)) (hR.kd (lvM h4 (by omega))) ⟨rfl, rfl⟩ (by decide) rfl ?_
  intro M hR hv
  refine zX.sub (L' := [(0, .ref (Λ 1001)), (1, .int (nI m)), (2, .int (nI jv))]) ⟨rfl, rfl, rfl, trivial⟩ ?_
  exact kk M hR
theorem k_vE110 {jv p a m : Nat} (hR : zRp Z Λ S M) (h4 : sc S 4 = 1) (hjv : jv < sc S 1002) (hp : p < sc S 1000) (ha : a < sc S 1001) (kk : ∀ M', zRp Z Λ (wV S (fVsM S jv a true true false)) M' → zX Z l 5 mth_X16_visits 333 [(0, .ref (Λ 1001)), (1, .int (nI m)), (2, .int (nI jv))] [] M' nc1 ns1 Q) :
    zX Z l 5 mth_X16_visits 232 [(0, .ref (Λ 1001)), (1, .int (nI m)), (2, .int (nI jv)), (3, .ref (Λ (1150 + jv))), (5, .ref (Λ (1100 + p))), (6, .ref (Λ (1140 + a))), (7, .int 0), (8, .int 1), (9, .int 1)] [] M nc1 ns1 Q := by
  refine zs_aload_n (n := 233) dX16_visits_232 rfl rfl ?_
  refine zs_iload (n := 235) dX16_visits_233 rfl rfl ?_
  refine zs_if_eq (tgt := 243) (n := 238) dX16_visits_235 (by decide) rfl (fun h => absurd h (by decide)) (fun _ => ?_)
  refine zs_bipush (v := 20) (n := 240) dX16_visits_238 (by decide) rfl ?_
  refine zs_goto (tgt := 244) dX16_visits_240 (by decide) ?_
  refine zs_iload (n := 246) dX16_visits_244 rfl rfl ?_
  refine zs_if_eq (tgt := 254) (n := 249) dX16_visits_246 (by decide) rfl (fun h => absurd h (by decide)) (fun _ => ?_)
  refine zs_bipush (v := 10) (n := 251) dX16_visits_249 (by decide) rfl ?_
  refine zs_goto (tgt := 255) dX16_visits_251 (by decide) ?_
  refine zs_iadd (n := 256) dX16_visits_255 rfl ?_
  refine zs_iload (n := 258) dX16_visits_256 rfl rfl ?_
  refine zs_if_eq (tgt := 265) (n := 261) dX16_visits_258 (by decide) rfl (fun _ => ?_) (fun h => absurd (by decide) h)
  refine zs_iconst (v := 0) (n := 266) dX16_visits_265 (by decide) rfl ?_
  refine zs_iadd (n := 267) dX16_visits_266 rfl ?_
  rw [show (((20 : Int32) + (10 : Int32)) + (0 : Int32)) = (fSumV true true false) from rfl]
  refine zw_i (r := (1150 + jv)) (n := 270) dX16_visits_267 pf_X16_visits_244 hR (lvV' hjv) (hR.kV' hjv) ⟨rfl, rfl⟩ (by decide) rfl ?_
  intro M hR hv
  refine zs_aload_n (n := 271) dX16_visits_270 rfl rfl ?_
  refine zs_iload (n := 273) dX16_visits_271 rfl rfl ?_
  refine zs_if_eq (tgt := 281) (n := 276) dX16_visits_273 (by decide) rfl (fun h => absurd h (by decide)) (fun _ => ?_)
  refine zs_bipush (v := 102) (n := 278) dX16_visits_276 (by decide) rfl ?_
  refine zs_goto (tgt := 303) dX16_visits_278 (by decide) ?_
  refine zw_i (r := (1150 + jv)) (n := 306) dX16_visits_303 pf_X16_visits_247 hR (lvV' hjv) (hR.kV' hjv) (by constructor <;> decide) (by decide) rfl ?_
  intro M hR hv
  refine zs_aload (n := 308) dX16_visits_306 rfl rfl ?_
  refine zs_dup (n := 309) dX16_visits_308 rfl rfl ?_
  refine zs_getv (x := (sV S (1140 + a) 550)) (n := 312) dX16_visits_309 gf_X16_251 (hR.kA' ha) (hR.iv (lvA' ha) (by decide) (by decide)) rfl ?_
  refine zs_aload_n (n := 313) dX16_visits_312 rfl rfl ?_
  refine zs_getv (x := ((u2 (sV S) (1150 + jv) 643 (fSumV true true false)) (1150 + jv) 643)) (n := 316) dX16_visits_313 gf_X16_244 (hR.kV' hjv) (hR.iv (lvV' hjv) (by decide) (by decide)) rfl ?_
  rw [show ((u2 (sV S) (1150 + jv) 643 (fSumV true true false)) (1150 + jv) 643) = (fSumV true true false) from u2_at]
  refine zs_isub (n := 317) dX16_visits_316 rfl ?_
  refine zw_i (r := (1140 + a)) (n := 320) dX16_visits_317 pf_X16_visits_251 hR (lvA' ha) (hR.kA' ha) ⟨rfl, rfl⟩ (by decide) rfl ?_
  intro M hR hv
  refine zs_aload_n (n := 321) dX16_visits_320 rfl rfl ?_
  refine zs_dup (n := 322) dX16_visits_321 rfl rfl ?_
  refine zs_getv (x := (sV S 1001 689)) (n := 325) dX16_visits_322 gf_X16_254 (hR.kd (lvM h4 (by omega))) (hR.iv (lvM h4 (by omega)) (by decide) (by decide)) rfl ?_
  refine zs_aload_n (n := 326) dX16_visits_325 rfl rfl ?_
  refine zs_getv (x := ((u2 (sV S) (1150 + jv) 643 (fSumV true true false)) (1150 + jv) 643)) (n := 329) dX16_visits_326 gf_X16_244 (hR.kV' hjv) (hR.iv (lvV' hjv) (by decide) (by decide)) rfl ?_
  rw [show ((u2 (sV S) (1150 + jv) 643 (fSumV true true false)) (1150 + jv) 643) = (fSumV true true false) from u2_at]
  refine zs_iadd (n := 330) dX16_visits_329 rfl ?_
  refine zw_i (r := 1001) (n := 333) dX16_visits_330 pf_X16_visits_254 hR (lvM h4 (by omega)) (hR.kd (lvM h4 (by omega))) ⟨rfl, rfl⟩ (by decide) rfl ?_
  intro M hR hv
  refine zX.sub (L' := [(0, .ref (Λ 1001)), (1, .int (nI m)), (2, .int (nI jv))]) ⟨rfl, rfl, rfl, trivial⟩ ?_
  exact kk M hR
theorem k_vE111 {jv p a m : Nat} (hR : zRp Z Λ S M) (h4 : sc S 4 = 1) (hjv : jv < sc S 1002) (hp : p < sc S 1000) (ha : a < sc S 1001) (kk : ∀ M', zRp Z Λ (wV S (fVsM S jv a true true true)) M' → zX Z l 5 mth_X16_visits 333 [(0, .ref (Λ 1001)), (1, .int (nI m)), (2, .int (nI jv))] [] M' nc1 ns1 Q) :
    zX Z l 5 mth_X16_visits 232 [(0, .ref (Λ 1001)), (1, .int (nI m)), (2, .int (nI jv)), (3, .ref (Λ (1150 + jv))), (5, .ref (Λ (1100 + p))), (6, .ref (Λ (1140 + a))), (7, .int 1), (8, .int 1), (9, .int 1)] [] M nc1 ns1 Q := by
  refine zs_aload_n (n := 233) dX16_visits_232 rfl rfl ?_
  refine zs_iload (n := 235) dX16_visits_233 rfl rfl ?_
  refine zs_if_eq (tgt := 243) (n := 238) dX16_visits_235 (by decide) rfl (fun h => absurd h (by decide)) (fun _ => ?_)
  refine zs_bipush (v := 20) (n := 240) dX16_visits_238 (by decide) rfl ?_
  refine zs_goto (tgt := 244) dX16_visits_240 (by decide) ?_
  refine zs_iload (n := 246) dX16_visits_244 rfl rfl ?_
  refine zs_if_eq (tgt := 254) (n := 249) dX16_visits_246 (by decide) rfl (fun h => absurd h (by decide)) (fun _ => ?_)
  refine zs_bipush (v := 10) (n := 251) dX16_visits_249 (by decide) rfl ?_
  refine zs_goto (tgt := 255) dX16_visits_251 (by decide) ?_
  refine zs_iadd (n := 256) dX16_visits_255 rfl ?_
  refine zs_iload (n := 258) dX16_visits_256 rfl rfl ?_
  refine zs_if_eq (tgt := 265) (n := 261) dX16_visits_258 (by decide) rfl (fun h => absurd h (by decide)) (fun _ => ?_)
  refine zs_iconst (v := 5) (n := 262) dX16_visits_261 (by decide) rfl ?_
  refine zs_goto (tgt := 266) dX16_visits_262 (by decide) ?_
  refine zs_iadd (n := 267) dX16_visits_266 rfl ?_
  rw [show (((20 : Int32) + (10 : Int32)) + (5 : Int32)) = (fSumV true true true) from rfl]
  refine zw_i (r := (1150 + jv)) (n := 270) dX16_visits_267 pf_X16_visits_244 hR (lvV' hjv) (hR.kV' hjv) ⟨rfl, rfl⟩ (by decide) rfl ?_
  intro M hR hv
  refine zs_aload_n (n := 271) dX16_visits_270 rfl rfl ?_
  refine zs_iload (n := 273) dX16_visits_271 rfl rfl ?_
  refine zs_if_eq (tgt := 281) (n := 276) dX16_visits_273 (by decide) rfl (fun h => absurd h (by decide)) (fun _ => ?_)
  refine zs_bipush (v := 102) (n := 278) dX16_visits_276 (by decide) rfl ?_
  refine zs_goto (tgt := 303) dX16_visits_278 (by decide) ?_
  refine zw_i (r := (1150 + jv)) (n := 306) dX16_visits_303 pf_X16_visits_247 hR (lvV' hjv) (hR.kV' hjv) (by constructor <;> decide) (by decide) rfl ?_
  intro M hR hv
  refine zs_aload (n := 308) dX16_visits_306 rfl rfl ?_
  refine zs_dup (n := 309) dX16_visits_308 rfl rfl ?_
  refine zs_getv (x := (sV S (1140 + a) 550)) (n := 312) dX16_visits_309 gf_X16_251 (hR.kA' ha) (hR.iv (lvA' ha) (by decide) (by decide)) rfl ?_
  refine zs_aload_n (n := 313) dX16_visits_312 rfl rfl ?_
  refine zs_getv (x := ((u2 (sV S) (1150 + jv) 643 (fSumV true true true)) (1150 + jv) 643)) (n := 316) dX16_visits_313 gf_X16_244 (hR.kV' hjv) (hR.iv (lvV' hjv) (by decide) (by decide)) rfl ?_
  rw [show ((u2 (sV S) (1150 + jv) 643 (fSumV true true true)) (1150 + jv) 643) = (fSumV true true true) from u2_at]
  refine zs_isub (n := 317) dX16_visits_316 rfl ?_
  refine zw_i (r := (1140 + a)) (n := 320) dX16_visits_317 pf_X16_visits_251 hR (lvA' ha) (hR.kA' ha) ⟨rfl, rfl⟩ (by decide) rfl ?_
  intro M hR hv
  refine zs_aload_n (n := 321) dX16_visits_320 rfl rfl ?_
  refine zs_dup (n := 322) dX16_visits_321 rfl rfl ?_
  refine zs_getv (x := (sV S 1001 689)) (n := 325) dX16_visits_322 gf_X16_254 (hR.kd (lvM h4 (by omega))) (hR.iv (lvM h4 (by omega)) (by decide) (by decide)) rfl ?_
  refine zs_aload_n (n := 326) dX16_visits_325 rfl rfl ?_
  refine zs_getv (x := ((u2 (sV S) (1150 + jv) 643 (fSumV true true true)) (1150 + jv) 643)) (n := 329) dX16_visits_326 gf_X16_244 (hR.kV' hjv) (hR.iv (lvV' hjv) (by decide) (by decide)) rfl ?_
  rw [show ((u2 (sV S) (1150 + jv) 643 (fSumV true true true)) (1150 + jv) 643) = (fSumV true true true) from u2_at]
  refine zs_iadd (n := 330) dX16_visits_329 rfl ?_
  refine zw_i (r := 1001) (n := 333) dX16_visits_330 pf_X16_visits_254 hR (lvM h4 (by omega)) (hR.kd (lvM h4 (by omega))) ⟨rfl, rfl⟩ (by decide) rfl ?_
  intro M hR hv
  refine zX.sub (L' := [(0, .ref (Λ 1001)), (1, .int (nI m)), (2, .int (nI jv))]) ⟨rfl, rfl, rfl, trivial⟩ ?_
  exact kk M hR
theorem k_vFa1 {nn : Int32} {jv p a m : Nat} (hR : zRp Z Λ S M) (h4 : sc S 4 = 1) (hjv : jv < sc S 1002) (hp : p < sc S 1000) (ha : a < sc S 1001) (hf : ¬ sV S (1140 + a) 548 = 0) (hpm : sV S (1140 + a) 549 = 0) (hl : sV S 1001 685 < 10 * sV S (1140 + a) 545 + sV S (1100 + p) 577) (kk : zX Z l 5 mth_X16_visits 232 [(0, .ref (Λ 1001)), (1, .int (nI m)), (2, .int (nI jv)), (3, .ref (Λ (1150 + jv))), (5, .ref (Λ (1100 + p))), (6, .ref (Λ (1140 + a))), (7, .int nn), (8, .int 1), (9, .int 1)] [] M nc1 ns1 Q) : zX Z l 5 mth_X16_visits 181 [(0, .ref (Λ 1001)), (1, .int (nI m)), (2, .int (nI jv)), (3, .ref (Λ (1150 + jv))), (5, .ref (Λ (1100 + p))), (6, .ref (Λ (1140 + a))), (7, .int nn)] [] M nc1 ns1 Q := by
  refine zs_aload (n := 183) dX16_visits_181 rfl rfl ?_
  refine zs_getv (x := (sV S (1140 + a) 548)) (n := 186) dX16_visits_183 gf_X16_235 (hR.kA' ha) (hR.iv (lvA' ha) (by decide) (by decide)) rfl ?_
  refine zs_if_eq (tgt := 201) (n := 189) dX16_visits_186 (by decide) rfl (fun h => absurd h hf) (fun _ => ?_)
  refine zs_aload (n := 191) dX16_visits_189 rfl rfl ?_
  refine zs_getv (x := (sV S (1140 + a) 549)) (n := 194) dX16_visits_191 gf_X16_125 (hR.kA' ha) (hR.iv (lvA' ha) (by decide) (by decide)) rfl ?_
  refine zs_if_ne (tgt := 201) (n := 197) dX16_visits_194 (by decide) rfl (fun h => absurd hpm h) (fun _ => ?_)
  refine zs_iconst (v := 1) (n := 198) dX16_visits_197 (by decide) rfl ?_
  refine zs_goto (tgt := 202) dX16_visits_198 (by decide) ?_
  refine zs_istore (n := 204) dX16_visits_202 (by decide) rfl ?_
  refine zs_bipush (v := 10) (n := 206) dX16_visits_204 (by decide) rfl ?_
  refine zs_aload (n := 208) dX16_visits_206 rfl rfl ?_
  refine zs_getv (x := (sV S (1140 + a) 545)) (n := 211) dX16_visits_208 gf_X16_238 (hR.kA' ha) (hR.iv (lvA' ha) (by decide) (by decide)) rfl ?_
  refine zs_imul (n := 212) dX16_visits_211 rfl ?_
  refine zs_aload (n := 214) dX16_visits_212 rfl rfl ?_
  refine zs_getv (x := (sV S (1100 + p) 577)) (n := 217) dX16_visits_214 gf_X16_241 (hR.kP' hp) (hR.iv (lvP' hp) (by decide) (by decide)) rfl ?_
  refine zs_iadd (n := 218) dX16_visits_217 rfl ?_
  refine zs_aload_n (n := 219) dX16_visits_218 rfl rfl ?_
  refine zs_getv (x := (sV S 1001 685)) (n := 222) dX16_visits_219 gf_X16_40 (hR.kd (lvM h4 (by omega))) (hR.iv (lvM h4 (by omega)) (by decide) (by decide)) rfl ?_
  refine zs_icmp_le (tgt := 229) (n := 225) dX16_visits_222 (by decide) rfl (fun h => absurd h (Int32.not_le.mpr hl)) (fun _ => ?_)
  refine zs_iconst (v := 1) (n := 226) dX16_visits_225 (by decide) rfl ?_
  refine zs_goto (tgt := 230) dX16_visits_226 (by decide) ?_
  refine zs_istore (n := 232) dX16_visits_230 (by decide) rfl ?_
  refine zX.sub (L' := [(0, .ref (Λ 1001)), (1, .int (nI m)), (2, .int (nI jv)), (3, .ref (Λ (1150 + jv))), (5, .ref (Λ (1100 + p))), (6, .ref (Λ (1140 + a))), (7, .int nn), (8, .int 1), (9, .int 1)]) ⟨rfl, rfl, rfl, rfl, rfl, rfl, rfl, rfl, rfl, trivial⟩ ?_
  exact kk
theorem k_vFa0 {nn : Int32} {jv p a m : Nat} (hR : zRp Z Λ S M) (h4 : sc S 4 = 1) (hjv : jv < sc S 1002) (hp : p < sc S 1000) (ha : a < sc S 1001) (hf : ¬ sV S (1140 + a) 548 = 0) (hpm : sV S (1140 + a) 549 = 0) (hl : ¬ sV S 1001 685 < 10 * sV S (1140 + a) 545 + sV S (1100 + p) 577) (kk : zX Z l 5 mth_X16_visits 232 [(0, .ref (Λ 1001)), (1, .int (nI m)), (2, .int (nI jv)), (3, .ref (Λ (1150 + jv))), (5, .ref (Λ (1100 + p))), (6, .ref (Λ (1140 + a))), (7, .int nn), (8, .int 1), (9, .int 0)] [] M nc1 ns1 Q) : zX Z l 5 mth_X16_visits 181 [(0, .ref (Λ 1001)), (1, .int (nI m)), (2, .int (nI jv)), (3, .ref (Λ (1150 + jv))), (5, .ref (Λ (1100 + p))), (6, .ref (Λ (1140 + a))), (7, .int nn)] [] M nc1 ns1 Q := by
  refine zs_aload (n := 183) dX16_visits_181 rfl rfl ?_
  refine zs_getv (x := (sV S (1140 + a) 548)) (n := 186) dX16_visits_183 gf_X16_235 (hR.kA' ha) (hR.iv (lvA' ha) (by decide) (by decide)) rfl ?_
  refine zs_if_eq (tgt := 201) (n := 189) dX16_visits_186 (by decide) rfl (fun h => absurd h hf) (fun _ => ?_)
  refine zs_aload (n := 191) dX16_visits_189 rfl rfl ?_
  refine zs_getv (x := (sV S (1140 + a) 549)) (n := 194) dX16_visits_191 gf_X16_125 (hR.kA' ha) (hR.iv (lvA' ha) (by decide) (by decide)) rfl ?_
  refine zs_if_ne (tgt := 201) (n := 197) dX16_visits_194 (by decide) rfl (fun h => absurd hpm h) (fun _ => ?_)
  refine zs_iconst (v := 1) (n := 198) dX16_visits_197 (by decide) rfl ?_
  refine zs_goto (tgt := 202) dX16_visits_198 (by decide) ?_
  refine zs_istore (n := 204) dX16_visits_202 (by decide) rfl ?_
  refine zs_bipush (v := 10) (n := 206) dX16_visits_204 (by decide) rfl ?_
  refine zs_aload (n := 208) dX16_visits_206 rfl rfl ?_
  refine zs_getv (x := (sV S (1140 + a) 545)) (n := 211) dX16_visits_208 gf_X16_238 (hR.kA' ha) (hR.iv (lvA' ha) (by decide) (by decide)) rfl ?_
  refine zs_imul (n := 212) dX16_visits_211 rfl ?_
  refine zs_aload (n := 214) dX16_visits_212 rfl rfl ?_
  refine zs_getv (x := (sV S (1100 + p) 577)) (n := 217) dX16_visits_214 gf_X16_241 (hR.kP' hp) (hR.iv (lvP' hp) (by decide) (by decide)) rfl ?_
  refine zs_iadd (n := 218) dX16_visits_217 rfl ?_
  refine zs_aload_n (n := 219) dX16_visits_218 rfl rfl ?_
  refine zs_getv (x := (sV S 1001 685)) (n := 222) dX16_visits_219 gf_X16_40 (hR.kd (lvM h4 (by omega))) (hR.iv (lvM h4 (by omega)) (by decide) (by decide)) rfl ?_
  refine zs_icmp_le (tgt := 229) (n := 225) dX16_visits_222 (by decide) rfl (fun _ => ?_) (fun h => absurd (Int32.not_lt.mp hl) h)
  refine zs_iconst (v := 0) (n := 230) dX16_visits_229 (by decide) rfl ?_
  refine zs_istore (n := 232) dX16_visits_230 (by decide) rfl ?_
  refine zX.sub (L' := [(0, .ref (Λ 1001)), (1, .int (nI m)), (2, .int (nI jv)), (3, .ref (Λ (1150 + jv))), (5, .ref (Λ (1100 + p))), (6, .ref (Λ (1140 + a))), (7, .int nn), (8, .int 1), (9, .int 0)]) ⟨rfl, rfl, rfl, rfl, rfl, rfl, rfl, rfl, rfl, trivial⟩ ?_
  exact kk
theorem k_vFb1 {nn : Int32} {jv p a m : Nat} (hR : zRp Z Λ S M) (h4 : sc S 4 = 1) (hjv : jv < sc S 1002) (hp : p < sc S 1000) (ha : a < sc S 1001) (hf : ¬ sV S (1140 + a) 548 = 0) (hpm : ¬ sV S (1140 + a) 549 = 0) (hl : sV S 1001 685 < 10 * sV S (1140 + a) 545 + sV S (1100 + p) 577) (kk : zX Z l 5 mth_X16_visits 232 [(0, .ref (Λ 1001)), (1, .int (nI m)), (2, .int (nI jv)), (3, .ref (Λ (1150 + jv))), (5, .ref (Λ (1100 + p))), (6, .ref (Λ (1140 + a))), (7, .int nn), (8, .int 0), (9, .int 1)] [] M nc1 ns1 Q) : zX Z l 5 mth_X16_visits 181 [(0, .ref (Λ 1001)), (1, .int (nI m)), (2, .int (nI jv)), (3, .ref (Λ (1150 + jv))), (5, .ref (Λ (1100 + p))), (6, .ref (Λ (1140 + a))), (7, .int nn)] [] M nc1 ns1 Q := by
  refine zs_aload (n := 183) dX16_visits_181 rfl rfl ?_
  refine zs_getv (x := (sV S (1140 + a) 548)) (n := 186) dX16_visits_183 gf_X16_235 (hR.kA' ha) (hR.iv (lvA' ha) (by decide) (by decide)) rfl ?_
  refine zs_if_eq (tgt := 201) (n := 189) dX16_visits_186 (by decide) rfl (fun h => absurd h hf) (fun _ => ?_)
  refine zs_aload (n := 191) dX16_visits_189 rfl rfl ?_
  refine zs_getv (x := (sV S (1140 + a) 549)) (n := 194) dX16_visits_191 gf_X16_125 (hR.kA' ha) (hR.iv (lvA' ha) (by decide) (by decide)) rfl ?_
  refine zs_if_ne (tgt := 201) (n := 197) dX16_visits_194 (by decide) rfl (fun _ => ?_) (fun h => absurd h hpm)
  refine zs_iconst (v := 0) (n := 202) dX16_visits_201 (by decide) rfl ?_
  refine zs_istore (n := 204) dX16_visits_202 (by decide) rfl ?_
  refine zs_bipush (v := 10) (n := 206) dX16_visits_204 (by decide) rfl ?_
  refine zs_aload (n := 208) dX16_visits_206 rfl rfl ?_
  refine zs_getv (x := (sV S (1140 + a) 545)) (n := 211) dX16_visits_208 gf_X16_238 (hR.kA' ha) (hR.iv (lvA' ha) (by decide) (by decide)) rfl ?_
  refine zs_imul (n := 212) dX16_visits_211 rfl ?_
  refine zs_aload (n := 214) dX16_visits_212 rfl rfl ?_
  refine zs_getv (x := (sV S (1100 + p) 577)) (n := 217) dX16_visits_214 gf_X16_241 (hR.kP' hp) (hR.iv (lvP' hp) (by decide) (by decide)) rfl ?_
  refine zs_iadd (n := 218) dX16_visits_217 rfl ?_
  refine zs_aload_n (n := 219) dX16_visits_218 rfl rfl ?_
  refine zs_getv (x := (sV S 1001 685)) (n := 222) dX16_visits_219 gf_X16_40 (hR.kd (lvM h4 (by omega))) (hR.iv (lvM h4 (by omega)) (by decide) (by decide)) rfl ?_
  refine zs_icmp_le (tgt := 229) (n := 225) dX16_visits_222 (by decide) rfl (fun h => absurd h (Int32.not_le.mpr hl)) (fun _ => ?_)
  refine zs_iconst (v := 1) (n := 226) dX16_visits_225 (by decide) rfl ?_
  refine zs_goto (tgt := 230) dX16_visits_226 (by decide) ?_
  refine zs_istore (n := 232) dX16_visits_230 (by decide) rfl ?_
  refine zX.sub (L' := [(0, .ref (Λ 1001)), (1, .int (nI m)), (2, .int (nI jv)), (3, .ref (Λ (1150 + jv))), (5, .ref (Λ (1100 + p))), (6, .ref (Λ (1140 + a))), (7, .int nn), (8, .int 0), (9, .int 1)]) ⟨rfl, rfl, rfl, rfl, rfl, rfl, rfl, rfl, rfl, trivial⟩ ?_
  exact kk
theorem k_vFb0 {nn : Int32} {jv p a m : Nat} (hR : zRp Z Λ S M) (h4 : sc S 4 = 1) (hjv : jv < sc S 1002) (hp : p < sc S 1000) (ha : a < sc S 1001) (hf : ¬ sV S (1140 + a) 548 = 0) (hpm : ¬ sV S (1140 + a) 549 = 0) (hl : ¬ sV S 1001 685 < 10 * sV S (1140 + a) 545 + sV S (1100 + p) 577) (kk : zX Z l 5 mth_X16_visits 232 [(0, .ref (Λ 1001)), (1, .int (nI m)), (2, .int (nI jv)), (3, .ref (Λ (1150 + jv))), (5, .ref (Λ (1100 + p))), (6, .ref (Λ (1140 + a))), (7, .int nn), (8, .int 0), (9, .int 0)] [] M nc1 ns1 Q) : zX Z l 5 mth_X16_visits 181 [(0, .ref (Λ 1001)), (1, .int (nI m)), (2, .int (nI jv)), (3, .ref (Λ (1150 + jv))), (5, .ref (Λ (1100 + p))), (6, .ref (Λ (1140 + a))), (7, .int nn)] [] M nc1 ns1 Q := by
  refine zs_aload (n := 183) dX16_visits_181 rfl rfl ?_
  refine zs_getv (x := (sV S (1140 + a) 548)) (n := 186) dX16_visits_183 gf_X16_235 (hR.kA' ha) (hR.iv (lvA' ha) (by decide) (by decide)) rfl ?_
  refine zs_if_eq (tgt := 201) (n := 189) dX16_visits_186 (by decide) rfl (fun h => absurd h hf) (fun _ => ?_)
  refine zs_aload (n := 191) dX16_visits_189 rfl rfl ?_
  refine zs_getv (x := (sV S (1140 + a) 549)) (n := 194) dX16_visits_191 gf_X16_125 (hR.kA' ha) (hR.iv (lvA' ha) (by decide) (by decide)) rfl ?_
  refine zs_if_ne (tgt := 201) (n := 197) dX16_visits_194 (by decide) rfl (fun _ => ?_) (fun h => absurd h hpm)
  refine zs_iconst (v := 0) (n := 202) dX16_visits_201 (by decide) rfl ?_
  refine zs_istore (n := 204) dX16_visits_202 (by decide) rfl ?_
  refine zs_bipush (v := 10) (n := 206) dX16_visits_204 (by decide) rfl ?_
  refine zs_aload (n := 208) dX16_visits_206 rfl rfl ?_
  refine zs_getv (x := (sV S (1140 + a) 545)) (n := 211) dX16_visits_208 gf_X16_238 (hR.kA' ha) (hR.iv (lvA' ha) (by decide) (by decide)) rfl ?_
  refine zs_imul (n := 212) dX16_visits_211 rfl ?_
  refine zs_aload (n := 214) dX16_visits_212 rfl rfl ?_
  refine zs_getv (x := (sV S (1100 + p) 577)) (n := 217) dX16_visits_214 gf_X16_241 (hR.kP' hp) (hR.iv (lvP' hp) (by decide) (by decide)) rfl ?_
  refine zs_iadd (n := 218) dX16_visits_217 rfl ?_
  refine zs_aload_n (n := 219) dX16_visits_218 rfl rfl ?_
  refine zs_getv (x := (sV S 1001 685)) (n := 222) dX16_visits_219 gf_X16_40 (hR.kd (lvM h4 (by omega))) (hR.iv (lvM h4 (by omega)) (by decide) (by decide)) rfl ?_
  refine zs_icmp_le (tgt := 229) (n := 225) dX16_visits_222 (by decide) rfl (fun _ => ?_) (fun h => absurd (Int32.not_lt.mp hl) h)
  refine zs_iconst (v := 0) (n := 230) dX16_visits_229 (by decide) rfl ?_
  refine zs_istore (n := 232) dX16_visits_230 (by decide) rfl ?_
  refine zX.sub (L' := [(0, .ref (Λ 1001)), (1, .int (nI m)), (2, .int (nI jv)), (3, .ref (Λ (1150 + jv))), (5, .ref (Λ (1100 + p))), (6, .ref (Λ (1140 + a))), (7, .int nn), (8, .int 0), (9, .int 0)]) ⟨rfl, rfl, rfl, rfl, rfl, rfl, rfl, rfl, rfl, trivial⟩ ?_
  exact kk
theorem k_vFc1 {nn : Int32} {jv p a m : Nat} (hR : zRp Z Λ S M) (h4 : sc S 4 = 1) (hjv : jv < sc S 1002) (hp : p < sc S 1000) (ha : a < sc S 1001) (hf : sV S (1140 + a) 548 = 0) (hl : sV S 1001 685 < 10 * sV S (1140 + a) 545 + sV S (1100 + p) 577) (kk : zX Z l 5 mth_X16_visits 232 [(0, .ref (Λ 1001)), (1, .int (nI m)), (2, .int (nI jv)), (3, .ref (Λ (1150 + jv))), (5, .ref (Λ (1100 + p))), (6, .ref (Λ (1140 + a))), (7, .int nn), (8, .int 0), (9, .int 1)] [] M nc1 ns1 Q) : zX Z l 5 mth_X16_visits 181 [(0, .ref (Λ 1001)), (1, .int (nI m)), (2, .int (nI jv)), (3, .ref (Λ (1150 + jv))), (5, .ref (Λ (1100 + p))), (6, .ref (Λ (1140 + a))), (7, .int nn)] [] M nc1 ns1 Q := by
  refine zs_aload (n := 183) dX16_visits_181 rfl rfl ?_
  refine zs_getv (x := (sV S (1140 + a) 548)) (n := 186) dX16_visits_183 gf_X16_235 (hR.kA' ha) (hR.iv (lvA' ha) (by decide) (by decide)) rfl ?_
  refine zs_if_eq (tgt := 201) (n := 189) dX16_visits_186 (by decide) rfl (fun _ => ?_) (fun h => absurd hf h)
  refine zs_iconst (v := 0) (n := 202) dX16_visits_201 (by decide) rfl ?_
  refine zs_istore (n := 204) dX16_visits_202 (by decide) rfl ?_
  refine zs_bipush (v := 10) (n := 206) dX16_visits_204 (by decide) rfl ?_
  refine zs_aload (n := 208) dX16_visits_206 rfl rfl ?_
  refine zs_getv (x := (sV S (1140 + a) 545)) (n := 211) dX16_visits_208 gf_X16_238 (hR.kA' ha) (hR.iv (lvA' ha) (by decide) (by decide)) rfl ?_
  refine zs_imul (n := 212) dX16_visits_211 rfl ?_
  refine zs_aload (n := 214) dX16_visits_212 rfl rfl ?_
  refine zs_getv (x := (sV S (1100 + p) 577)) (n := 217) dX16_visits_214 gf_X16_241 (hR.kP' hp) (hR.iv (lvP' hp) (by decide) (by decide)) rfl ?_
  refine zs_iadd (n := 218) dX16_visits_217 rfl ?_
  refine zs_aload_n (n := 219) dX16_visits_218 rfl rfl ?_
  refine zs_getv (x := (sV S 1001 685)) (n := 222) dX16_visits_219 gf_X16_40 (hR.kd (lvM h4 (by omega))) (hR.iv (lvM h4 (by omega)) (by decide) (by decide)) rfl ?_
  refine zs_icmp_le (tgt := 229) (n := 225) dX16_visits_222 (by decide) rfl (fun h => absurd h (Int32.not_le.mpr hl)) (fun _ => ?_)
  refine zs_iconst (v := 1) (n := 226) dX16_visits_225 (by decide) rfl ?_
  refine zs_goto (tgt := 230) dX16_visits_226 (by decide) ?_
  refine zs_istore (n := 232) dX16_visits_230 (by decide) rfl ?_
  refine zX.sub (L' := [(0, .ref (Λ 1001)), (1, .int (nI m)), (2, .int (nI jv)), (3, .ref (Λ (1150 + jv))), (5, .ref (Λ (1100 + p))), (6, .ref (Λ (1140 + a))), (7, .int nn), (8, .int 0), (9, .int 1)]) ⟨rfl, rfl, rfl, rfl, rfl, rfl, rfl, rfl, rfl, trivial⟩ ?_
  exact kk
theorem k_vFc0 {nn : Int32} {jv p a m : Nat} (hR : zRp Z Λ S M) (h4 : sc S 4 = 1) (hjv : jv < sc S 1002) (hp : p < sc S 1000) (ha : a < sc S 1001) (hf : sV S (1140 + a) 548 = 0) (hl : ¬ sV S 1001 685 < 10 * sV S (1140 + a) 545 + sV S (1100 + p) 577) (kk : zX Z l 5 mth_X16_visits 232 [(0, .ref (Λ 1001)), (1, .int (nI m)), (2, .int (nI jv)), (3, .ref (Λ (1150 + jv))), (5, .ref (Λ (1100 + p))), (6, .ref (Λ (1140 + a))), (7, .int nn), (8, .int 0), (9, .int 0)] [] M nc1 ns1 Q) : zX Z l 5 mth_X16_visits 181 [(0, .ref (Λ 1001)), (1, .int (nI m)), (2, .int (nI jv)), (3, .ref (Λ (1150 + jv))), (5, .ref (Λ (1100 + p))), (6, .ref (Λ (1140 + a))), (7, .int nn)] [] M nc1 ns1 Q := by
  refine zs_aload (n := 183) dX16_visits_181 rfl rfl ?_
  refine zs_getv (x := (sV S (1140 + a) 548)) (n := 186) dX16_visits_183 gf_X16_235 (hR.kA' ha) (hR.iv (lvA' ha) (by decide) (by decide)) rfl ?_
  refine zs_if_eq (tgt := 201) (n := 189) dX16_visits_186 (by decide) rfl (fun _ => ?_) (fun h => absurd hf h)
  refine zs_iconst (v := 0) (n := 202) dX16_visits_201 (by decide) rfl ?_
  refine zs_istore (n := 204) dX16_visits_202 (by decide) rfl ?_
  refine zs_bipush (v := 10) (n := 206) dX16_visits_204 (by decide) rfl ?_
  refine zs_aload (n := 208) dX16_visits_206 rfl rfl ?_
  refine zs_getv (x := (sV S (1140 + a) 545)) (n := 211) dX16_visits_208 gf_X16_238 (hR.kA' ha) (hR.iv (lvA' ha) (by decide) (by decide)) rfl ?_
  refine zs_imul (n := 212) dX16_visits_211 rfl ?_
  refine zs_aload (n := 214) dX16_visits_212 rfl rfl ?_
  refine zs_getv (x := (sV S (1100 + p) 577)) (n := 217) dX16_visits_214 gf_X16_241 (hR.kP' hp) (hR.iv (lvP' hp) (by decide) (by decide)) rfl ?_
  refine zs_iadd (n := 218) dX16_visits_217 rfl ?_
  refine zs_aload_n (n := 219) dX16_visits_218 rfl rfl ?_
  refine zs_getv (x := (sV S 1001 685)) (n := 222) dX16_visits_219 gf_X16_40 (hR.kd (lvM h4 (by omega))) (hR.iv (lvM h4 (by omega)) (by decide) (by decide)) rfl ?_
  refine zs_icmp_le (tgt := 229) (n := 225) dX16_visits_222 (by decide) rfl (fun _ => ?_) (fun h => absurd (Int32.not_lt.mp hl) h)
  refine zs_iconst (v := 0) (n := 230) dX16_visits_229 (by decide) rfl ?_
  refine zs_istore (n := 232) dX16_visits_230 (by decide) rfl ?_
  refine zX.sub (L' := [(0, .ref (Λ 1001)), (1, .int (nI m)), (2, .int (nI jv)), (3, .ref (Λ (1150 + jv))), (5, .ref (Λ (1100 + p))), (6, .ref (Λ (1140 + a))), (7, .int nn), (8, .int 0), (9, .int 0)]) ⟨rfl, rfl, rfl, rfl, rfl, rfl, rfl, rfl, rfl, trivial⟩ ?_
  exact kk
def fFireM (S : zSt) (a : Nat) : Bool := !decide (sV S (1140 + a) 548 = 0) && decide (sV S (1140 + a) 549 = 0)
def fLoudM (S : zSt) (p a : Nat) : Bool := decide (sV S 1001 685 < 10 * sV S (1140 + a) 545 + sV S (1100 + p) 577)
theorem k_vF {nn : Int32} {jv p a m : Nat} (hR : zRp Z Λ S M) (h4 : sc S 4 = 1) (hjv : jv < sc S 1002) (hp : p < sc S 1000) (ha : a < sc S 1001) (kk : zX Z l 5 mth_X16_visits 232 [(0, .ref (Λ 1001)), (1, .int (nI m)), (2, .int (nI jv)), (3, .ref (Λ (1150 + jv))), (5, .ref (Λ (1100 + p))), (6, .ref (Λ (1140 + a))), (7, .int nn), (8, .int (zb (fFireM S a))), (9, .int (zb (fLoudM S p a)))] [] M nc1 ns1 Q) : zX Z l 5 mth_X16_visits 181 [(0, .ref (Λ 1001)), (1, .int (nI m)), (2, .int (nI jv)), (3, .ref (Λ (1150 + jv))), (5, .ref (Λ (1100 + p))), (6, .ref (Λ (1140 + a))), (7, .int nn)] [] M nc1 ns1 Q := by
  unfold fFireM fLoudM at kk
  by_cases hl : sV S 1001 685 < 10 * sV S (1140 + a) 545 + sV S (1100 + p) 577
  · rw [decide_eq_true hl] at kk
    by_cases hf : sV S (1140 + a) 548 = 0
    · rw [decide_eq_true hf] at kk
      exact k_vFc1 hR h4 hjv hp ha hf hl kk
    · rw [decide_eq_false hf] at kk
      by_cases hpm : sV S (1140 + a) 549 = 0
      · rw [decide_eq_true hpm] at kk
        exact k_vFa1 hR h4 hjv hp ha hf hpm hl kk
      · rw [decide_eq_false hpm] at kk
        exact k_vFb1 hR h4 hjv hp ha hf hpm hl kk
  · rw [decide_eq_false hl] at kk
    by_cases hf : sV S (1140 + a) 548 = 0
    · rw [decide_eq_true hf] at kk
      exact k_vFc0 hR h4 hjv hp ha hf hl kk
    · rw [decide_eq_false hf] at kk
      by_cases hpm : sV S (1140 + a) 549 = 0
      · rw [decide_eq_true hpm] at kk
        exact k_vFa0 hR h4 hjv hp ha hf hpm hl kk
      · rw [decide_eq_false hpm] at kk
        exact k_vFb0 hR h4 hjv hp ha hf hpm hl kk
theorem k_vE {jv p a m : Nat} (hR : zRp Z Λ S M) (h4 : sc S 4 = 1) (hjv : jv < sc S 1002) (hp : p < sc S 1000) (ha : a < sc S 1001) (f lq n : Bool) (kk : ∀ M', zRp Z Λ (wV S (fVsM S jv a f lq n)) M' → zX Z l 5 mth_X16_visits 333 [(0, .ref (Λ 1001)), (1, .int (nI m)), (2, .int (nI jv))] [] M' nc1 ns1 Q) :
    zX Z l 5 mth_X16_visits 232 [(0, .ref (Λ 1001)), (1, .int (nI m)), (2, .int (nI jv)), (3, .ref (Λ (1150 + jv))), (5, .ref (Λ (1100 + p))), (6, .ref (Λ (1140 + a))), (7, .int (zb n)), (8, .int (zb f)), (9, .int (zb lq))] [] M nc1 ns1 Q := by
  cases f <;> cases lq <;> cases n
  · exact k_vE000 hR h4 hjv hp ha kk
  · exact k_vE001 hR h4 hjv hp ha kk
  · exact k_vE010 hR h4 hjv hp ha kk
  · exact k_vE011 hR h4 hjv hp ha kk
  · exact k_vE100 hR h4 hjv hp ha kk
  · exact k_vE101 hR h4 hjv hp ha kk
  · exact k_vE110 hR h4 hjv hp ha kk
  · exact k_vE111 hR h4 hjv hp ha kk
/-- a visit that meets a turn -/
theorem k_vOne {jv p a m : Nat} (hR : zRp Z Λ S M) (h4 : sc S 4 = 1) (hjv : jv < sc S 1002) (hp : p < sc S 1000) (ha : a < sc S 1001) (kk : ∀ M', zRp Z Λ (wV S (fVsM S jv a (fFireM S a) (fLoudM S p a) (fNrM S p m (sc S 1000)))) M' → zX Z l 5 mth_X16_visits 333 [(0, .ref (Λ 1001)), (1, .int (nI m)), (2, .int (nI jv))] [] M' nc1 ns1 Q) :
    zX Z l 5 mth_X16_visits 95 [(0, .ref (Λ 1001)), (1, .int (nI m)), (2, .int (nI jv)), (3, .ref (Λ (1150 + jv))), (5, .ref (Λ (1100 + p))), (6, .ref (Λ (1140 + a)))] [] M (nc1 + 1) (ns1 + 4) Q :=
  k_vNear hR h4 hjv hp ha (fun M' hR' => k_vF hR' h4 hjv hp ha (k_vE hR' h4 hjv hp ha (fFireM S a) (fLoudM S p a) (fNrM S p m (sc S 1000)) kk))
/-- what one visit makes, and all -/
def fV1M (S : zSt) (A : Nat → Nat → Nat) (B : Nat → Nat) (m j : Nat) : Nat → Nat → Int32 :=
  if sV S (1150 + j) 641 = nI m ∧ fAtM S (B j) (nI m) < sc S (1010 + B j) then fVsM S j (A (B j) (fAtM S (B j) (nI m))) (fFireM S (A (B j) (fAtM S (B j) (nI m)))) (fLoudM S (B j) (A (B j) (fAtM S (B j) (nI m)))) (fNrM S (B j) m (sc S 1000)) else sV S
def fVsA (S : zSt) (A : Nat → Nat → Nat) (B : Nat → Nat) (m n : Nat) : zSt := zit (fun j T => wV T (fV1M T A B m j)) n S
def zViss (S : zSt) (B : Nat → Nat) : Prop := ∀ j, j < sc S 1002 → sV S (1150 + j) 640 = nI (B j) ∧ B j < sc S 1000
theorem k_v1 {jv m nx : Nat} {A : Nat → Nat → Nat} {B : Nat → Nat} (hR : zRp Z Λ S M) (h4 : sc S 4 = 1) (hjv : jv < sc S 1002) (hA : zActs S A) (hB : zViss S B) (hnx : sV S (1150 + jv) 641 = nI m → 1 ≤ nx) (kk : ∀ M', zRp Z Λ (wV S (fV1M S A B m jv)) M' → zX Z l 5 mth_X16_visits 333 [(0, .ref (Λ 1001)), (1, .int (nI m)), (2, .int (nI jv))] [] M' nc1 ns1 Q) :
    zX Z l 5 mth_X16_visits 13 [(0, .ref (Λ 1001)), (1, .int (nI m)), (2, .int (nI jv))] [] M (nc1 + nx) (ns1 + 4 * nx) Q := by
  have hnc : sV S (1150 + jv) 641 = nI m → nc1 + 1 ≤ nc1 + nx ∧ ns1 + 4 ≤ ns1 + 4 * nx := fun h => by
    have := hnx h
    omega
  have hb1 : sc S 1000 ≤ 6 := hR.bnd.2.1.1
  have hb2 : sc S 1001 ≤ 8 := hR.bnd.2.1.2.1
  have hb3 : sc S 1002 ≤ 6 := hR.bnd.2.1.2.2.1
  refine zs_aload_n (n := 14) dX16_visits_13 rfl rfl ?_
  refine zs_getr (b := (Λ 1019)) (n := 17) dX16_visits_14 gf_X16_19 (hR.kd (lvM h4 (by omega))) (hR.pt (lvM h4 (by omega)) rfl (by decide)) rfl ?_
  refine zs_iload_n (n := 18) dX16_visits_17 rfl rfl ?_
  refine zc_getb (c := sc S 1002) (b := (Λ (1150 + jv))) (n := 21) dX16_visits_18 ml_X16_94 (hR.lV' h4) hjv rfl (by simp) (by omega) rfl ?_
  refine zs_castS (ci := 20) (n := 24) dX16_visits_21 rfl cl_X16_200 (hR.kV' hjv) rfl ?_
  refine zs_astore_n (n := 25) dX16_visits_24 (by decide) rfl ?_
  refine zs_aload_n (n := 26) dX16_visits_25 rfl rfl ?_
  refine zs_getv (x := (sV S (1150 + jv) 641)) (n := 29) dX16_visits_26 gf_X16_220 (hR.kV' hjv) (hR.iv (lvV' hjv) (by decide) (by decide)) rfl ?_
  refine zs_iload_n (n := 30) dX16_visits_29 rfl rfl ?_
  refine zs_icmp_ne (tgt := 54) (n := 33) dX16_visits_30 (by decide) rfl (fun h30 => ?_) (fun h30 => ?_)
  · refine zs_null (n := 55) dX16_visits_54 rfl ?_
    refine zs_astoreN (n := 57) dX16_visits_55 (by decide) rfl ?_
    refine zs_aloadN (n := 59) dX16_visits_57 rfl rfl ?_
    refine zs_ifnullN (tgt := 333) dX16_visits_59 (by decide) ?_
    refine zX.sub (L' := [(0, .ref (Λ 1001)), (1, .int (nI m)), (2, .int (nI jv))]) ⟨rfl, rfl, rfl, trivial⟩ ?_
    have e9 : fV1M S A B m jv = sV S := by
      first
      | exact if_neg (fun h => h30 h.1)
      | exact if_neg (fun h => hat48 h.2)
    exact zX.more (kk M (by rw [e9]; exact hR)) (by omega) (by omega)
  · have hm : sV S (1150 + jv) 641 = nI m := h30
    refine zs_aload_n (n := 34) dX16_visits_33 rfl rfl ?_
    refine zs_getr (b := (Λ 1015)) (n := 37) dX16_visits_34 gf_X16_10 (hR.kd (lvM h4 (by omega))) (hR.pt (lvM h4 (by omega)) rfl (by decide)) rfl ?_
    refine zs_aload_n (n := 38) dX16_visits_37 rfl rfl ?_
    refine zs_getv (x := (sV S (1150 + jv) 640)) (n := 41) dX16_visits_38 gf_X16_223 (hR.kV' hjv) (hR.iv (lvV' hjv) (by decide) (by decide)) rfl ?_
    rw [(hB jv hjv).1]
    have hbj := (hB jv hjv).2
    refine zc_getb (c := sc S 1000) (b := (Λ (1100 + (B jv)))) (n := 44) dX16_visits_41 ml_X16_94 (hR.lP' h4) hbj rfl (by simp) (by omega) rfl ?_
    refine zs_castS (ci := 18) (n := 47) dX16_visits_44 rfl cl_X16_68 (hR.kP' hbj) rfl ?_
    refine zs_iload_n (n := 48) dX16_visits_47 rfl rfl ?_
    by_cases hat48 : fAtM S (B jv) (nI m) < sc S (1010 + (B jv))
    · refine zc_V (n := 51) (As := [.int (nI m)]) (ci := 18) (mc := 0) (ms := 0) (d' := 3) (nc1 := (nc1 + nx)) (ns1 := (ns1 + 4 * nx)) dX16_visits_48 ok_X13_at ⟨ml_X16_226, im_X13_at, sl_X13_at⟩ rfl (hR.kP' hbj) rfl (Nat.le_of_ble_eq_true rfl) (by simp) (by omega) (Nat.le_refl _) (Nat.le_refl _) rfl rfl (k_at hR h4 hbj rfl hat48) ?_
      refine zs_goto (tgt := 55) dX16_visits_51 (by decide) ?_
      refine zs_astore (n := 57) dX16_visits_55 (by decide) rfl ?_
      refine zs_aload (n := 59) dX16_visits_57 rfl rfl ?_
      refine zs_ifnull (n := 62) dX16_visits_59 rfl ?_
      refine zs_aload_n (n := 63) dX16_visits_62 rfl rfl ?_
      refine zs_getr (b := (Λ 1015)) (n := 66) dX16_visits_63 gf_X16_10 (hR.kd (lvM h4 (by omega))) (hR.pt (lvM h4 (by omega)) rfl (by decide)) rfl ?_
      refine zs_aload_n (n := 67) dX16_visits_66 rfl rfl ?_
      refine zs_getv (x := (sV S (1150 + jv) 640)) (n := 70) dX16_visits_67 gf_X16_223 (hR.kV' hjv) (hR.iv (lvV' hjv) (by decide) (by decide)) rfl ?_
      rw [(hB jv hjv).1]
      have hbj := (hB jv hjv).2
      refine zc_getb (c := sc S 1000) (b := (Λ (1100 + (B jv)))) (n := 73) dX16_visits_70 ml_X16_94 (hR.lP' h4) hbj rfl (by simp) (by omega) rfl ?_
      refine zs_castS (ci := 18) (n := 76) dX16_visits_73 rfl cl_X16_68 (hR.kP' hbj) rfl ?_
      refine zs_astore (n := 78) dX16_visits_76 (by decide) rfl ?_
      refine zs_aload_n (n := 79) dX16_visits_78 rfl rfl ?_
      refine zs_getr (b := (Λ 1017)) (n := 82) dX16_visits_79 gf_X16_16 (hR.kd (lvM h4 (by omega))) (hR.pt (lvM h4 (by omega)) rfl (by decide)) rfl ?_
      refine zs_aload (n := 84) dX16_visits_82 rfl rfl ?_
      refine zs_getv (x := (sV S (1160 + 8 * (B jv) + (fAtM S (B jv) (nI m))) 608)) (n := 87) dX16_visits_84 gf_X16_169 (hR.kK' hbj hat48) (hR.iv (lvK' hbj hat48) (by decide) (by decide)) rfl ?_
      rw [(hA _ _ (hB jv hjv).2 hat48).1]
      have haj := (hA _ _ (hB jv hjv).2 hat48).2
      refine zc_getb (c := sc S 1001) (b := (Λ (1140 + (A (B jv) (fAtM S (B jv) (nI m)))))) (n := 90) dX16_visits_87 ml_X16_94 (hR.lA' h4) haj rfl (by simp) (by omega) rfl ?_
      refine zs_castS (ci := 17) (n := 93) dX16_visits_90 rfl cl_X16_111 (hR.kA' haj) rfl ?_
      refine zs_astore (n := 95) dX16_visits_93 (by decide) rfl ?_
      refine zX.sub (L' := [(0, .ref (Λ 1001)), (1, .int (nI m)), (2, .int (nI jv)), (3, .ref (Λ (1150 + jv))), (5, .ref (Λ (1100 + B jv))), (6, .ref (Λ (1140 + A (B jv) (fAtM S (B jv) (nI m)))))]) ⟨rfl, rfl, rfl, rfl, rfl, rfl, trivial⟩ ?_
      refine zX.more (k_vOne (nc1 := nc1) (ns1 := ns1) hR h4 hjv (hB jv hjv).2 (hA _ _ (hB jv hjv).2 hat48).2 (fun M' hR' => kk M' ?_)) (hnc hm).1 (hnc hm).2
      rw [show fV1M S A B m jv = _ from if_pos ⟨hm, hat48⟩]
      exact hR'
    · refine zc_V (n := 51) (As := [.int (nI m)]) (ci := 18) (mc := 0) (ms := 0) (d' := 3) (nc1 := (nc1 + nx)) (ns1 := (ns1 + 4 * nx)) dX16_visits_48 ok_X13_at ⟨ml_X16_226, im_X13_at, sl_X13_at⟩ rfl (hR.kP' hbj) rfl (Nat.le_of_ble_eq_true rfl) (by simp) (by omega) (Nat.le_refl _) (Nat.le_refl _) rfl rfl (k_at_no hR h4 hbj hat48) ?_
      refine zs_goto (tgt := 55) dX16_visits_51 (by decide) ?_
      refine zs_astoreN (n := 57) dX16_visits_55 (by decide) rfl ?_
      refine zs_aloadN (n := 59) dX16_visits_57 rfl rfl ?_
      refine zs_ifnullN (tgt := 333) dX16_visits_59 (by decide) ?_
      refine zX.sub (L' := [(0, .ref (Λ 1001)), (1, .int (nI m)), (2, .int (nI jv))]) ⟨rfl, rfl, rfl, trivial⟩ ?_
      have e9 : fV1M S A B m jv = sV S := by
        first
        | exact if_neg (fun h => h30 h.1)
        | exact if_neg (fun h => hat48 h.2)
      exact zX.more (kk M (by rw [e9]; exact hR)) (by omega) (by omega)
theorem fV1M_k {A : Nat → Nat → Nat} {B : Nat → Nat} {m j r key : Nat} (h1 : key ≠ 643) (h2 : key ≠ 642) (h3 : key ≠ 550) (h4 : key ≠ 689) : fV1M S A B m j r key = sV S r key := by
  unfold fV1M
  split
  · unfold fVsM
    rw [u2_k h4, u2_k h3, u2_k h2, u2_k h1]
  · rfl
theorem fVsA_c {A : Nat → Nat → Nat} {B : Nat → Nat} {m : Nat} : ∀ n, sc (fVsA S A B m n) = sc S
  | 0 => rfl
  | n + 1 => fVsA_c n
theorem fVsA_k {A : Nat → Nat → Nat} {B : Nat → Nat} {m r key : Nat} (h1 : key ≠ 643) (h2 : key ≠ 642) (h3 : key ≠ 550) (h4 : key ≠ 689) : ∀ n, sV (fVsA S A B m n) r key = sV S r key
  | 0 => rfl
  | n + 1 => (fV1M_k h1 h2 h3 h4).trans (fVsA_k h1 h2 h3 h4 n)
theorem zActs.to {S' : zSt} {A : Nat → Nat → Nat} (h : zActs S A) (hc : sc S' = sc S) (hV : ∀ r, sV S' r 608 = sV S r 608) : zActs S' A := by
  intro i k hi hk
  rw [hc] at hi hk ⊢
  rw [hV]
  exact h i k hi hk
theorem zViss.to {S' : zSt} {B : Nat → Nat} (h : zViss S B) (hc : sc S' = sc S) (hV : ∀ r, sV S' r 640 = sV S r 640) : zViss S' B := by
  intro j hj
  rw [hc] at hj ⊢
  rw [hV]
  exact h j hj
/-- how many visits are in a minute -/
def cVis (S : zSt) (m n : Nat) : Nat := zit (fun j c => c + (if sV S (1150 + j) 641 = nI m then 1 else 0)) n 0
theorem cVis_le {m i : Nat} : ∀ d, cVis S m i ≤ cVis S m (i + d)
  | 0 => Nat.le_refl _
  | d + 1 => Nat.le_trans (cVis_le d) (Nat.le_add_right _ _)
theorem k_visits {m : Nat} {A : Nat → Nat → Nat} {B : Nat → Nat} (hR : zRp Z Λ S M) (h4 : sc S 4 = 1) (hA : zActs S A) (hB : zViss S B) (hQ : ∀ M', zRp Z Λ (fVsA S A B m (sc S 1002)) M' → Q (.inl none) M') : zX Z l 5 mth_X16_visits 0 (lv_args 0 [.ref (Λ 1001), .int (nI m)]) [] M (cVis S m (sc S 1002)) (4 * cVis S m (sc S 1002)) Q := by
  show zX Z l 5 mth_X16_visits 0 [(0, .ref (Λ 1001)), (1, .int (nI m))] [] M (cVis S m (sc S 1002)) (4 * cVis S m (sc S 1002)) Q
  have hb3 : sc S 1002 ≤ 6 := hR.bnd.2.1.2.2.1
  refine zs_iconst (v := 0) (n := 1) dX16_visits_0 (by decide) rfl ?_
  refine zs_istore_n (n := 2) dX16_visits_1 (by decide) rfl ?_
  refine zX.sub (L' := [(0, .ref (Λ 1001)), (1, .int (nI m)), (2, .int (nI 0))]) ⟨rfl, rfl, rfl, trivial⟩ ?_
  refine zX.more (nc' := cVis S m (sc S 1002) - cVis S m 0) (ns' := 4 * (cVis S m (sc S 1002) - cVis S m 0)) ?_ (Nat.sub_le _ _) (Nat.mul_le_mul_left 4 (Nat.sub_le _ _))
  refine zloop (n := sc S 1002) (X := fun j => ∀ M, zRp Z Λ (fVsA S A B m j) M → zX Z l 5 mth_X16_visits 2 [(0, .ref (Λ 1001)), (1, .int (nI m)), (2, .int (nI j))] [] M (cVis S m (sc S 1002) - cVis S m j) (4 * (cVis S m (sc S 1002) - cVis S m j)) Q) (fun j hj ih => ?_) ?_ 0 (Nat.zero_le _) M hR
  · intro M hR
    have h4 : sc (fVsA S A B m j) 4 = 1 := by rw [fVsA_c]; exact h4
    have hcV : sc (fVsA S A B m j) 1002 = sc S 1002 := by rw [fVsA_c]
    refine zs_iload_n (n := 3) dX16_visits_2 rfl rfl ?_
    refine zs_aload_n (n := 4) dX16_visits_3 rfl rfl ?_
    refine zs_getr (b := (Λ 1019)) (n := 7) dX16_visits_4 gf_X16_19 (hR.kd (lvM h4 (by omega))) (hR.pt (lvM h4 (by omega)) rfl (by decide)) rfl ?_
    refine zc_size (c := sc (fVsA S A B m j) 1002) (n := 10) dX16_visits_7 ml_X16_46 (hR.lV' h4) (by simp) (by omega) rfl ?_
    rw [hcV]
    refine zs_icmp_ge (tgt := 339) (n := 13) dX16_visits_10 (by decide) rfl (fun h => absurd h (nI_ge hj (by omega))) (fun _ => ?_)
    have hle : cVis S m (j + 1) ≤ cVis S m (sc S 1002) := by
      have := cVis_le (S := S) (m := m) (i := j + 1) (sc S 1002 - (j + 1))
      rw [show j + 1 + (sc S 1002 - (j + 1)) = sc S 1002 from by omega] at this
      exact this
    have hst : cVis S m (j + 1) = cVis S m j + (if sV S (1150 + j) 641 = nI m then 1 else 0) := rfl
    refine zX.more (k_v1 (S := (fVsA S A B m j)) (jv := j) (nc1 := cVis S m (sc S 1002) - cVis S m (j + 1)) (ns1 := 4 * (cVis S m (sc S 1002) - cVis S m (j + 1))) (nx := if sV S (1150 + j) 641 = nI m then 1 else 0) hR h4 (by omega) (hA.to (fVsA_c j) (fun r => fVsA_k (by decide) (by decide) (by decide) (by decide) j)) (hB.to (fVsA_c j) (fun r => fVsA_k (by decide) (by decide) (by decide) (by decide) j)) (fun h => by rw [fVsA_k (by decide) (by decide) (by decide) (by decide) j] at h; rw [if_pos h]; exact Nat.le_refl _) (fun M hR => ?_)) (by omega) (by omega)
    refine zs_iinc (v := nI (j + 1)) (n := 336) dX16_visits_333 rfl (nI_1 _) (by decide) rfl ?_
    refine zs_goto (tgt := 2) dX16_visits_336 (by decide) ?_
    refine zX.sub (L' := [(0, .ref (Λ 1001)), (1, .int (nI m)), (2, .int (nI (j + 1)))]) ⟨rfl, rfl, rfl, trivial⟩ ?_
    exact ih M hR
  · intro M hR
    have h4 : sc (fVsA S A B m (sc S 1002)) 4 = 1 := by rw [fVsA_c]; exact h4
    have hcV : sc (fVsA S A B m (sc S 1002)) 1002 = sc S 1002 := by rw [fVsA_c]
    refine zs_iload_n (n := 3) dX16_visits_2 rfl rfl ?_
    refine zs_aload_n (n := 4) dX16_visits_3 rfl rfl ?_
    refine zs_getr (b := (Λ 1019)) (n := 7) dX16_visits_4 gf_X16_19 (hR.kd (lvM h4 (by omega))) (hR.pt (lvM h4 (by omega)) rfl (by decide)) rfl ?_
    refine zc_size (c := sc (fVsA S A B m (sc S 1002)) 1002) (n := 10) dX16_visits_7 ml_X16_46 (hR.lV' h4) (by simp) (by omega) rfl ?_
    rw [hcV]
    refine zs_icmp_ge (tgt := 339) (n := 13) dX16_visits_10 (by decide) rfl (fun _ => ?_) (fun h => absurd (nI_le (Nat.le_refl _) (by omega)) h)
    refine zs_return dX16_visits_339 rfl ?_
    exact hQ _ hR
end ZMOD13
