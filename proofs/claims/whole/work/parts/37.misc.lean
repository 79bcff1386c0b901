/-! MORE of the class: bits counted, partners, shares, what is allowed, the diary, what a turn tells, fines -/
section ZMISC
variable {Z : zPar} {l : Launch} {Λ : Nat → Nat} {S : zSt} {M : zMem}
/-- where playing things are: the turn that each pitch plays, and which is next -/
abbrev zPst : Type := zSt × (Nat → Option Nat) × (Nat → Nat)
abbrev zCh (w : Int32) : Prop := narrow .char (.int w) = .int w ∧ fits .char (.int w) = true
def zPl (Λ : Nat → Nat) (T : zPst) (M : zMem) : Prop := (∀ i, i < sc T.1 0 → (vR M (Λ (100 + i)) 359 = (T.2.1 i).map (fun k => Λ (160 + 8 * i + k)) ∧ ∀ k, T.2.1 i = some k → k < sc T.1 (10 + i)) ∧ sV T.1 (100 + i) 357 = nI (T.2.2 i) ∧ T.2.2 i ≤ sc T.1 (10 + i)) ∧ ∀ j, j < sc T.1 2 → zCh (sV T.1 (150 + j) 450)
theorem zPl.of {T T' : zPst} {M M' : zMem} (h : zPl Λ T M) (hv : vR M' = vR M) (h1 : sc T'.1 = sc T.1) (h2 : T'.2 = T.2) (h3 : ∀ i, sV T'.1 (100 + i) 357 = sV T.1 (100 + i) 357) (h4 : ∀ j, sV T'.1 (150 + j) 450 = sV T.1 (150 + j) 450) : zPl Λ T' M' := by
  refine ⟨fun i hi => ?_, fun j hj => ?_⟩
  · rw [h1] at hi
    have := h.1 i hi
    rw [hv, h1, h2, h3]
    exact this
  · rw [h1] at hj
    rw [h4]
    exact h.2 j hj
def fBc1 (x : Int32) : Int32 := x - ((x.toUInt32 >>> ((1 : Int32).toUInt32 &&& Int32.toUInt32 31)).toInt32 &&& 1431655765)
def fBc2 (x : Int32) : Int32 := (x &&& 858993459) + ((x.toUInt32 >>> ((2 : Int32).toUInt32 &&& Int32.toUInt32 31)).toInt32 &&& 858993459)
def fBc3 (x : Int32) : Int32 := (x + (x.toUInt32 >>> ((4 : Int32).toUInt32 &&& Int32.toUInt32 31)).toInt32) &&& 252645135
def fBc4 (x : Int32) : Int32 := x + (x.toUInt32 >>> ((8 : Int32).toUInt32 &&& Int32.toUInt32 31)).toInt32
def fBc5 (x : Int32) : Int32 := x + (x.toUInt32 >>> ((16 : Int32).toUInt32 &&& Int32.toUInt32 31)).toInt32
def fBc (x : Int32) : Int32 := fBc5 (fBc4 (fBc3 (fBc2 (fBc1 x)))) &&& 63
theorem c_bitCount {x : Int32}  : zD Z l 0 mth_J6_bitCount_0f7a4 [.int x] M 0 0 (some (.int (fBc x))) M := by
  intro Q hQ
  show zX Z l 0 mth_J6_bitCount_0f7a4 0 [(0, .int x)] [] M 0 0 Q
  refine zs_iload_n (n := 1) dJ6_bitCount_0f7a4_0 rfl rfl ?_
  refine zs_iload_n (n := 2) dJ6_bitCount_0f7a4_1 rfl rfl ?_
  refine zs_iconst (v := 1) (n := 3) dJ6_bitCount_0f7a4_2 (by decide) rfl ?_
  refine zs_iushr (v := (x.toUInt32 >>> ((1 : Int32).toUInt32 &&& Int32.toUInt32 31)).toInt32) (n := 4) dJ6_bitCount_0f7a4_3 rfl rfl ?_
  refine zs_ldcw (n := 7) dJ6_bitCount_0f7a4_4 ct_J6_265 rfl ?_
  refine zs_iand (n := 8) dJ6_bitCount_0f7a4_7 rfl ?_
  refine zs_isub (n := 9) dJ6_bitCount_0f7a4_8 rfl ?_
  refine zs_istore_n (n := 10) dJ6_bitCount_0f7a4_9 (by decide) rfl ?_
  refine zs_iload_n (n := 11) dJ6_bitCount_0f7a4_10 rfl rfl ?_
  refine zs_ldcw (n := 14) dJ6_bitCount_0f7a4_11 ct_J6_266 rfl ?_
  refine zs_iand (n := 15) dJ6_bitCount_0f7a4_14 rfl ?_
  refine zs_iload_n (n := 16) dJ6_bitCount_0f7a4_15 rfl rfl ?_
  refine zs_iconst (v := 2) (n := 17) dJ6_bitCount_0f7a4_16 (by decide) rfl ?_
  refine zs_iushr (v := ((x - (((x.toUInt32 >>> ((1 : Int32).toUInt32 &&& Int32.toUInt32 31)).toInt32) &&& (1431655765 : Int32))).toUInt32 >>> ((2 : Int32).toUInt32 &&& Int32.toUInt32 31)).toInt32) (n := 18) dJ6_bitCount_0f7a4_17 rfl rfl ?_
  refine zs_ldcw (n := 21) dJ6_bitCount_0f7a4_18 ct_J6_266 rfl ?_
  refine zs_iand (n := 22) dJ6_bitCount_0f7a4_21 rfl ?_
  refine zs_iadd (n := 23) dJ6_bitCount_0f7a4_22 rfl ?_
  refine zs_istore_n (n := 24) dJ6_bitCount_0f7a4_23 (by decide) rfl ?_
  refine zs_iload_n (n := 25) dJ6_bitCount_0f7a4_24 rfl rfl ?_
  refine zs_iload_n (n := 26) dJ6_bitCount_0f7a4_25 rfl rfl ?_
  refine zs_iconst (v := 4) (n := 27) dJ6_bitCount_0f7a4_26 (by decide) rfl ?_
  refine zs_iushr (v := ((((x - (((x.toUInt32 >>> ((1 : Int32).toUInt32 &&& Int32.toUInt32 31)).toInt32) &&& (1431655765 : Int32))) &&& (858993459 : Int32)) + ((((x - (((x.toUInt32 >>> ((1 : Int32).toUInt32 &&& Int32.toUInt32 31)).toInt32) &&& (1431655765 : Int32))).toUInt32 >>> ((2 : Int32).toUInt32 &&& Int32.toUInt32 31)).toInt32) &&& (858993459 : Int32))).toUInt32 >>> ((4 : Int32).toUInt32 &&& Int32.toUInt32 31)).toInt32) (n := 28) dJ6_bitCount_0f7a4_27 rfl rfl ?_
  refine zs_iadd (n := 29) dJ6_bitCount_0f7a4_28 rfl ?_
  refine zs_ldcw (n := 32) dJ6_bitCount_0f7a4_29 ct_J6_267 rfl ?_
  refine zs_iand (n := 33) dJ6_bitCount_0f7a4_32 rfl ?_
  refine zs_istore_n (n := 34) dJ6_bitCount_0f7a4_33 (by decide) rfl ?_
  refine zs_iload_n (n := 35) dJ6_bitCount_0f7a4_34 rfl rfl ?_
  refine zs_iload_n (n := 36) dJ6_bitCount_0f7a4_35 rfl rfl ?_
  refine zs_bipush (v := 8) (n := 38) dJ6_bitCount_0f7a4_36 (by decide) rfl ?_
  refine zs_iushr (v := ((((((x - (((x.toUInt32 >>> ((1 : Int32).toUInt32 &&& Int32.toUInt32 31)).toInt32) &&& (1431655765 : Int32))) &&& (858993459 : Int32)) + ((((x - (((x.toUInt32 >>> ((1 : Int32).toUInt32 &&& Int32.toUInt32 31)).toInt32) &&& (1431655765 : Int32))).toUInt32 >>> ((2 : Int32).toUInt32 &&& Int32.toUInt32 31)).toInt32) &&& (858993459 : Int32))) + (((((x - (((x.toUInt32 >>> ((1 : Int32).toUInt32 &&& Int32.toUInt32 31)).toInt32) &&& (1431655765 : Int32))) &&& (858993459 : Int32)) + ((((x - (((x.toUInt32 >>> ((1 : Int32).toUInt32 &&& Int32.toUInt32 31)).toInt32) &&& (1431655765 : Int32))).toUInt32 >>> ((2 : Int32).toUInt32 &&& Int32.toUInt32 31)).toInt32) &&& (858993459 : Int32))).toUInt32 >>> ((4 : Int32).toUInt32 &&& Int32.toUInt32 31)).toInt32)) &&& (252645135 : Int32)).toUInt32 >>> ((8 : Int32).toUInt32 &&& Int32.toUInt32 31)).toInt32) (n := 39) dJ6_bitCount_0f7a4_38 rfl rfl ?_
  refine zs_iadd (n := 40) dJ6_bitCount_0f7a4_39 rfl ?_
  refine zs_istore_n (n := 41) dJ6_bitCount_0f7a4_40 (by decide) rfl ?_
  refine zs_iload_n (n := 42) dJ6_bitCount_0f7a4_41 rfl rfl ?_
  refine zs_iload_n (n := 43) dJ6_bitCount_0f7a4_42 rfl rfl ?_
  refine zs_bipush (v := 16) (n := 45) dJ6_bitCount_0f7a4_43 (by decide) rfl ?_
  refine zs_iushr (v := (((((((x - (((x.toUInt32 >>> ((1 : Int32).toUInt32 &&& Int32.toUInt32 31)).toInt32) &&& (1431655765 : Int32))) &&& (858993459 : Int32)) + ((((x - (((x.toUInt32 >>> ((1 : Int32).toUInt32 &&& Int32.toUInt32 31)).toInt32) &&& (1431655765 : Int32))).toUInt32 >>> ((2 : Int32).toUInt32 &&& Int32.toUInt32 31)).toInt32) &&& (858993459 : Int32))) + (((((x - (((x.toUInt32 >>> ((1 : Int32).toUInt32 &&& Int32.toUInt32 31)).toInt32) &&& (1431655765 : Int32))) &&& (858993459 : Int32)) + ((((x - (((x.toUInt32 >>> ((1 : Int32).toUInt32 &&& Int32.toUInt32 31)).toInt32) &&& (1431655765 : Int32))).toUInt32 >>> ((2 : Int32).toUInt32 &&& Int32.toUInt32 31)).toInt32) &&& (858993459 : Int32))).toUInt32 >>> ((4 : Int32).toUInt32 &&& Int32.toUInt32 31)).toInt32)) &&& (252645135 : Int32)) + (((((((x - (((x.toUInt32 >>> ((1 : Int32).toUInt32 &&& Int32.toUInt32 31)).toInt32) &&& (1431655765 : Int32))) &&& (858993459 : Int32)) + ((((x - (((x.toUInt32 >>> ((1 : Int32).toUInt32 &&& Int32.toUInt32 31)).toInt32) &&& (1431655765 : Int32))).toUInt32 >>> ((2 : Int32).toUInt32 &&& Int32.toUInt32 31)).toInt32) &&& (858993459 : Int32))) + (((((x - (((x.toUInt32 >>> ((1 : Int32).toUInt32 &&& Int32.toUInt32 31)).toInt32) &&& (1431655765 : Int32))) &&& (858993459 : Int32)) + ((((x - (((x.toUInt32 >>> ((1 : Int32).toUInt32 &&& Int32.toUInt32 31)).toInt32) &&& (1431655765 : Int32))).toUInt32 >>> ((2 : Int32).toUInt32 &&& Int32.toUInt32 31)).toInt32) &&& (858993459 : Int32))).toUInt32 >>> ((4 : Int32).toUInt32 &&& Int32.toUInt32 31)).toInt32)) &&& (252645135 : Int32)).toUInt32 >>> ((8 : Int32).toUInt32 &&& Int32.toUInt32 31)).toInt32)).toUInt32 >>> ((16 : Int32).toUInt32 &&& Int32.toUInt32 31)).toInt32) (n := 46) dJ6_bitCount_0f7a4_45 rfl rfl ?_
  refine zs_iadd (n := 47) dJ6_bitCount_0f7a4_46 rfl ?_
  refine zs_istore_n (n := 48) dJ6_bitCount_0f7a4_47 (by decide) rfl ?_
  refine zs_iload_n (n := 49) dJ6_bitCount_0f7a4_48 rfl rfl ?_
  refine zs_bipush (v := 63) (n := 51) dJ6_bitCount_0f7a4_49 (by decide) rfl ?_
  refine zs_iand (n := 52) dJ6_bitCount_0f7a4_51 rfl ?_
  refine zs_ireturn dJ6_bitCount_0f7a4_52 ⟨_, rfl, rfl⟩ ?_
  exact hQ
def fMP (all : Int32) (j : Nat) (V : Nat → Nat → Int32) : Nat → Nat → Int32 := zit (fun i V => if all &&& zbit (nI i) = 0 then V else u2 V (140 + i) 168 all) j V
theorem c_makePartners {a b : Nat} (hR : zRp Z Λ S M) (h3 : sc S 3 = 1) (ha : a < sc S 1) (hb0 : b < sc S 1) : zG Z l 3 mth_X7_makePartners [.ref (Λ 2), .ref (Λ (140 + a)), .ref (Λ (140 + b))] M 0 0 (some (.int (fBc (sV S (140 + a) 168 ||| sV S (140 + b) 168)))) (zRp Z Λ (wV S (fMP (sV S (140 + a) 168 ||| sV S (140 + b) 168) (sc S 1) (sV S)))) := by
  intro Q hQ
  show zX Z l 3 mth_X7_makePartners 0 [(0, .ref (Λ 2)), (1, .ref (Λ (140 + a))), (2, .ref (Λ (140 + b)))] [] M 0 0 Q
  refine zs_aload_n (n := 1) dX7_makePartners_0 rfl rfl ?_
  refine zs_getv (x := (sV S (140 + a) 168)) (n := 4) dX7_makePartners_1 gf_X7_42 (hR.kA ha) (hR.iv (lvA ha) (by decide) (by decide)) rfl ?_
  refine zs_aload_n (n := 5) dX7_makePartners_4 rfl rfl ?_
  refine zs_getv (x := (sV S (140 + b) 168)) (n := 8) dX7_makePartners_5 gf_X7_42 (hR.kA hb0) (hR.iv (lvA hb0) (by decide) (by decide)) rfl ?_
  refine zs_ior (n := 9) dX7_makePartners_8 rfl ?_
  refine zs_istore_n (n := 10) dX7_makePartners_9 (by decide) rfl ?_
  refine zs_iconst (v := 0) (n := 11) dX7_makePartners_10 (by decide) rfl ?_
  refine zs_istore (n := 13) dX7_makePartners_11 (by decide) rfl ?_
  refine zX.sub (L' := [(0, .ref (Λ 2)), (3, .int ((sV S (140 + a) 168) ||| (sV S (140 + b) 168))), (4, .int (nI 0))]) ⟨rfl, rfl, rfl, trivial⟩ ?_
  refine zloop (n := sc S 1) (X := fun j => ∀ M, zRp Z Λ (wV S (fMP (sV S (140 + a) 168 ||| sV S (140 + b) 168) j (sV S))) M → zX Z l 3 mth_X7_makePartners 13 [(0, .ref (Λ 2)), (3, .int ((sV S (140 + a) 168) ||| (sV S (140 + b) 168))), (4, .int (nI j))] [] M 0 0 Q) (fun j hj ih => ?_) ?_ 0 (Nat.zero_le _) M ?_
  · intro M hR
    have hb := hR.bnd.1.2.1
    refine zs_iload (n := 15) dX7_makePartners_13 rfl rfl ?_
    refine zs_aload_n (n := 16) dX7_makePartners_15 rfl rfl ?_
    refine zs_getr (b := (Λ 17)) (n := 19) dX7_makePartners_16 gf_X7_16 (hR.kd (lvC h3 (by omega))) (hR.pt (lvC h3 (by omega)) rfl (by decide)) rfl ?_
    refine zc_size (c := sc (wV S (fMP (sV S (140 + a) 168 ||| sV S (140 + b) 168) j (sV S))) 1) (n := 22) dX7_makePartners_19 ml_X7_19 (hR.lA h3) (by simp) (by omega) rfl ?_
    refine zs_icmp_ge (tgt := 56) (n := 25) dX7_makePartners_22 (by decide) rfl (fun h => absurd h (nI_ge hj (by omega))) (fun _ => ?_)
    refine zs_iload_n (n := 26) dX7_makePartners_25 rfl rfl ?_
    refine zs_iconst (v := 1) (n := 27) dX7_makePartners_26 (by decide) rfl ?_
    refine zs_iload (n := 29) dX7_makePartners_27 rfl rfl ?_
    refine zs_ishl (n := 30) dX7_makePartners_29 rfl ?_
    refine zs_iand (n := 31) dX7_makePartners_30 rfl ?_
    refine zs_if_eq (tgt := 50) (n := 34) dX7_makePartners_31 (by decide) rfl (fun h31 => ?_) (fun h31 => ?_)
    · refine zs_iinc (v := (nI (j + 1))) (n := 53) dX7_makePartners_50 rfl (nI_1 _) (by decide) rfl ?_
      refine zs_goto (tgt := 13) dX7_makePartners_53 (by decide) ?_
      refine zX.sub (L' := [(0, .ref (Λ 2)), (3, .int ((sV S (140 + a) 168) ||| (sV S (140 + b) 168))), (4, .int (nI (j + 1)))]) ⟨rfl, rfl, rfl, trivial⟩ ?_
      exact ih M (by rw [show fMP (sV S (140 + a) 168 ||| sV S (140 + b) 168) (j + 1) (sV S) = (if (sV S (140 + a) 168 ||| sV S (140 + b) 168) &&& zbit (nI j) = 0 then fMP (sV S (140 + a) 168 ||| sV S (140 + b) 168) j (sV S) else u2 (fMP (sV S (140 + a) 168 ||| sV S (140 + b) 168) j (sV S)) (140 + j) 168 (sV S (140 + a) 168 ||| sV S (140 + b) 168)) from rfl]; first | (rw [if_pos h31]; exact hR) | (rw [if_neg h31]; exact hR))
    · refine zs_aload_n (n := 35) dX7_makePartners_34 rfl rfl ?_
      refine zs_getr (b := (Λ 17)) (n := 38) dX7_makePartners_35 gf_X7_16 (hR.kd (lvC h3 (by omega))) (hR.pt (lvC h3 (by omega)) rfl (by decide)) rfl ?_
      refine zs_iload (n := 40) dX7_makePartners_38 rfl rfl ?_
      refine zc_getb (c := sc (wV S (fMP (sV S (140 + a) 168 ||| sV S (140 + b) 168) j (sV S))) 1) (b := (Λ (140 + j))) (n := 43) dX7_makePartners_40 ml_X7_23 (hR.lA h3) hj rfl (by simp) (by omega) rfl ?_
      refine zs_castS (ci := 5) (n := 46) dX7_makePartners_43 rfl cl_X7_43 (hR.kA hj) rfl ?_
      refine zs_iload_n (n := 47) dX7_makePartners_46 rfl rfl ?_
      refine zw_i (r := (140 + j)) (n := 50) dX7_makePartners_47 pf_X7_makePartners_42 hR (lvA hj) (hR.kA hj) ⟨rfl, rfl⟩ (by decide) rfl ?_
      intro M hR hv
      refine zs_iinc (v := (nI (j + 1))) (n := 53) dX7_makePartners_50 rfl (nI_1 _) (by decide) rfl ?_
      refine zs_goto (tgt := 13) dX7_makePartners_53 (by decide) ?_
      refine zX.sub (L' := [(0, .ref (Λ 2)), (3, .int ((sV S (140 + a) 168) ||| (sV S (140 + b) 168))), (4, .int (nI (j + 1)))]) ⟨rfl, rfl, rfl, trivial⟩ ?_
      exact ih M (by rw [show fMP (sV S (140 + a) 168 ||| sV S (140 + b) 168) (j + 1) (sV S) = (if (sV S (140 + a) 168 ||| sV S (140 + b) 168) &&& zbit (nI j) = 0 then fMP (sV S (140 + a) 168 ||| sV S (140 + b) 168) j (sV S) else u2 (fMP (sV S (140 + a) 168 ||| sV S (140 + b) 168) j (sV S)) (140 + j) 168 (sV S (140 + a) 168 ||| sV S (140 + b) 168)) from rfl]; first | (rw [if_pos h31]; exact hR) | (rw [if_neg h31]; exact hR))
  · intro M hR
    have hb := hR.bnd.1.2.1
    refine zs_iload (n := 15) dX7_makePartners_13 rfl rfl ?_
    refine zs_aload_n (n := 16) dX7_makePartners_15 rfl rfl ?_
    refine zs_getr (b := (Λ 17)) (n := 19) dX7_makePartners_16 gf_X7_16 (hR.kd (lvC h3 (by omega))) (hR.pt (lvC h3 (by omega)) rfl (by decide)) rfl ?_
    refine zc_size (c := sc (wV S (fMP (sV S (140 + a) 168 ||| sV S (140 + b) 168) (sc S 1) (sV S))) 1) (n := 22) dX7_makePartners_19 ml_X7_19 (hR.lA h3) (by simp) (by omega) rfl ?_
    refine zs_icmp_ge (tgt := 56) (n := 25) dX7_makePartners_22 (by decide) rfl (fun _ => ?_) (fun h => absurd (nI_le (Nat.le_refl _) (by omega)) h)
    refine zs_iload_n (n := 57) dX7_makePartners_56 rfl rfl ?_
    refine zc_S (n := 60) (As := [.int ((sV S (140 + a) 168) ||| (sV S (140 + b) 168))]) (mc := 0) (ms := 0) dX7_makePartners_57 ok_J6_bitCount_0f7a4 ⟨ml_X7_47, st_J6_bitCount_0f7a4⟩ rfl (Nat.le_of_ble_eq_true rfl) (by simp) (by omega) (Nat.le_refl _) (Nat.le_refl _) rfl rfl c_bitCount ?_
    refine zs_ireturn dX7_makePartners_60 ⟨_, rfl, rfl⟩ ?_
    exact hQ _ hR
  · exact hR
def fPlaced (S : zSt) (j : Nat) : Int32 := zit (fun k p => p ||| zbit (sW S 11 k)) j 0
def fAllow (S : zSt) (n : Nat) : Prop := ∀ k, k < n → ∃ a, a < n ∧ sW S 11 k = nI a ∧ fPlaced S k &&& zbit (nI a) = 0 ∧ sW S 12 a &&& (fPlaced S k ^^^ (-1)) = 0
theorem c_isAllowed {n : Nat} (hR : zRp Z Λ S M) (h3 : sc S 3 = 1) (hn : n ≤ 8) (hs : sV S 4 323 = nI n) (hA : fAllow S n) : zD Z l 1 mth_X5_isAllowed [.ref (Λ 4)] M 0 0 (some (.int 1)) M := by
  intro Q hQ
  show zX Z l 1 mth_X5_isAllowed 0 [(0, .ref (Λ 4))] [] M 0 0 Q
  refine zs_iconst (v := 0) (n := 1) dX5_isAllowed_0 (by decide) rfl ?_
  refine zs_istore_n (n := 2) dX5_isAllowed_1 (by decide) rfl ?_
  refine zs_iconst (v := 0) (n := 3) dX5_isAllowed_2 (by decide) rfl ?_
  refine zs_istore_n (n := 4) dX5_isAllowed_3 (by decide) rfl ?_
  refine zX.sub (L' := [(0, .ref (Λ 4)), (1, .int (fPlaced S 0)), (2, .int (nI 0))]) ⟨rfl, rfl, rfl, trivial⟩ ?_
  refine zloop (n := n) (X := fun j => zX Z l 1 mth_X5_isAllowed 4 [(0, .ref (Λ 4)), (1, .int (fPlaced S j)), (2, .int (nI j))] [] M 0 0 Q) (fun j hj ih => ?_) ?_ 0 (Nat.zero_le _)
  · refine zs_iload_n (n := 5) dX5_isAllowed_4 rfl rfl ?_
    refine zs_aload_n (n := 6) dX5_isAllowed_5 rfl rfl ?_
    refine zs_getv (x := (sV S 4 323)) (n := 9) dX5_isAllowed_6 gf_X5_40 (hR.kd (lvC h3 (by omega))) (hR.iv (lvC h3 (by omega)) (by decide) (by decide)) rfl ?_
    rw [hs]
    refine zs_icmp_ge (tgt := 65) (n := 12) dX5_isAllowed_9 (by decide) rfl (fun h => absurd h (nI_ge hj (by omega))) (fun _ => ?_)
    refine zs_aload_n (n := 13) dX5_isAllowed_12 rfl rfl ?_
    refine zs_getr (b := (Λ 11)) (n := 16) dX5_isAllowed_13 gf_X5_9 (hR.kd (lvC h3 (by omega))) (hR.pt (lvC h3 (by omega)) rfl (by decide)) rfl ?_
    refine zs_iload_n (n := 17) dX5_isAllowed_16 rfl rfl ?_
    refine zs_ialdv (x := (sW S 11 j)) (n := 18) dX5_isAllowed_17 (hR.kd (lvC h3 (by omega))) (by rw [show mN M (Λ 11) = 8 from (hR.ln (lvC h3 (by omega)) rfl (by decide))]; exact vp_in_nI (by first | exact hj | omega) (by omega)) (by rw [nI_clamp (by omega)]; exact hR.av (lvC h3 (by omega))) rfl ?_
    obtain ⟨a, ha1, ha2, ha3, ha4⟩ := hA j hj
    rw [ha2]
    refine zs_istore_n (n := 19) dX5_isAllowed_18 (by decide) rfl ?_
    refine zs_iload_n (n := 20) dX5_isAllowed_19 rfl rfl ?_
    refine zs_aload_n (n := 21) dX5_isAllowed_20 rfl rfl ?_
    refine zs_getv (x := (sV S 4 323)) (n := 24) dX5_isAllowed_21 gf_X5_40 (hR.kd (lvC h3 (by omega))) (hR.iv (lvC h3 (by omega)) (by decide) (by decide)) rfl ?_
    rw [hs]
    refine zc_SN (n := 27) (As := [.int (nI a), .int (nI n)]) (mc := 0) (ms := 0) dX5_isAllowed_24 ok_X11_isIndex ⟨ml_X5_55, st_X11_isIndex⟩ rfl (Nat.le_of_ble_eq_true rfl) (by simp) (by omega) (Nat.le_refl _) (Nat.le_refl _) rfl rfl m_isIndex ?_
    refine zs_if_eq (tgt := 51) (n := 30) dX5_isAllowed_27 (by decide) rfl (fun h => absurd h (by simp [zb, nI_pos (show a < 2 ^ 31 from by omega), nI_ge ha1 (show n < 2 ^ 31 from by omega)])) (fun _ => ?_)
    refine zs_iload_n (n := 31) dX5_isAllowed_30 rfl rfl ?_
    refine zs_iconst (v := 1) (n := 32) dX5_isAllowed_31 (by decide) rfl ?_
    refine zs_iload_n (n := 33) dX5_isAllowed_32 rfl rfl ?_
    refine zs_ishl (n := 34) dX5_isAllowed_33 rfl ?_
    refine zs_iand (n := 35) dX5_isAllowed_34 rfl ?_
    refine zs_if_ne (tgt := 51) (n := 38) dX5_isAllowed_35 (by decide) rfl (fun h => absurd ha3 h) (fun _ => ?_)
    refine zs_aload_n (n := 39) dX5_isAllowed_38 rfl rfl ?_
    refine zs_getr (b := (Λ 12)) (n := 42) dX5_isAllowed_39 gf_X5_15 (hR.kd (lvC h3 (by omega))) (hR.pt (lvC h3 (by omega)) rfl (by decide)) rfl ?_
    refine zs_iload_n (n := 43) dX5_isAllowed_42 rfl rfl ?_
    refine zs_ialdv (x := (sW S 12 a)) (n := 44) dX5_isAllowed_43 (hR.kd (lvC h3 (by omega))) (by rw [show mN M (Λ 12) = 8 from (hR.ln (lvC h3 (by omega)) rfl (by decide))]; exact vp_in_nI (by first | exact (show a < 8 from by omega) | omega) (by omega)) (by rw [nI_clamp (by omega)]; exact hR.av (lvC h3 (by omega))) rfl ?_
    refine zs_iload_n (n := 45) dX5_isAllowed_44 rfl rfl ?_
    refine zs_iconst (v := -1) (n := 46) dX5_isAllowed_45 (by decide) rfl ?_
    refine zs_ixor (n := 47) dX5_isAllowed_46 rfl ?_
    refine zs_iand (n := 48) dX5_isAllowed_47 rfl ?_
    refine zs_if_eq (tgt := 53) (n := 51) dX5_isAllowed_48 (by decide) rfl (fun _ => ?_) (fun h => absurd ha4 h)
    refine zs_iload_n (n := 54) dX5_isAllowed_53 rfl rfl ?_
    refine zs_iconst (v := 1) (n := 55) dX5_isAllowed_54 (by decide) rfl ?_
    refine zs_iload_n (n := 56) dX5_isAllowed_55 rfl rfl ?_
    refine zs_ishl (n := 57) dX5_isAllowed_56 rfl ?_
    refine zs_ior (n := 58) dX5_isAllowed_57 rfl ?_
    refine zs_istore_n (n := 59) dX5_isAllowed_58 (by decide) rfl ?_
    refine zs_iinc (v := (nI (j + 1))) (n := 62) dX5_isAllowed_59 rfl (nI_1 _) (by decide) rfl ?_
    refine zs_goto (tgt := 4) dX5_isAllowed_62 (by decide) ?_
    refine zX.sub (L' := [(0, .ref (Λ 4)), (1, .int (fPlaced S (j + 1))), (2, .int (nI (j + 1)))]) ⟨rfl, (show some (Value.int ((fPlaced S j) ||| ((1 : Int32) <<< ((nI a) &&& 31)))) = some (Value.int (fPlaced S (j + 1))) from congrArg (fun z => some (Value.int z)) (by rw [show fPlaced S (j + 1) = fPlaced S j ||| zbit (sW S 11 j) from rfl, ha2])), rfl, trivial⟩ ?_
    exact ih
  · refine zs_iload_n (n := 5) dX5_isAllowed_4 rfl rfl ?_
    refine zs_aload_n (n := 6) dX5_isAllowed_5 rfl rfl ?_
    refine zs_getv (x := (sV S 4 323)) (n := 9) dX5_isAllowed_6 gf_X5_40 (hR.kd (lvC h3 (by omega))) (hR.iv (lvC h3 (by omega)) (by decide) (by decide)) rfl ?_
    rw [hs]
    refine zs_icmp_ge (tgt := 65) (n := 12) dX5_isAllowed_9 (by decide) rfl (fun _ => ?_) (fun h => absurd (nI_le (Nat.le_refl _) (by omega)) h)
    refine zs_iconst (v := 1) (n := 66) dX5_isAllowed_65 (by decide) rfl ?_
    refine zs_ireturn dX5_isAllowed_66 ⟨_, rfl, rfl⟩ ?_
    exact hQ
def fWrite (S : zSt) (x : Int32) : zSt := (sc S, u2 (sV S) 8 257 (if 10 < sV S 8 257 + 1 then 10 else sV S 8 257 + 1), u2 (u1 (sW S) 14 (va_cpy (sW S 14) (sW S 14) 0 1 9)) 14 0 x, sT S, sP S)
theorem cpX3_15 : zCpy RX3 15 := ⟨⟨tw_5 _ (List.mem_of_getElem? (i := 229) (by decide +kernel)), by decide +kernel⟩, ⟨tw_2 _ (List.mem_of_getElem? (i := 47) (by decide +kernel)), by decide +kernel⟩, ⟨tw_2 _ (List.mem_of_getElem? (i := 46) (by decide +kernel)), by decide +kernel⟩, ⟨tw_1 _ (List.mem_of_getElem? (i := 25) (by decide +kernel)), by decide +kernel⟩⟩
theorem c_write {x : Int32} (hR : zRp Z Λ S M) (h3 : sc S 3 = 1) : zG Z l 0 mth_X3_write [.ref (Λ 8), .int x] M 0 0 none (zRp Z Λ (fWrite S x)) := by
  intro Q hQ
  show zX Z l 0 mth_X3_write 0 [(0, .ref (Λ 8)), (1, .int x)] [] M 0 0 Q
  refine zs_aload_n (n := 1) dX3_write_0 rfl rfl ?_
  refine zs_getr (b := (Λ 14)) (n := 4) dX3_write_1 gf_X3_9 (hR.kd (lvC h3 (by omega))) (hR.pt (lvC h3 (by omega)) rfl (by decide)) rfl ?_
  refine zs_iconst (v := 0) (n := 5) dX3_write_4 (by decide) rfl ?_
  refine zs_aload_n (n := 6) dX3_write_5 rfl rfl ?_
  refine zs_getr (b := (Λ 14)) (n := 9) dX3_write_6 gf_X3_9 (hR.kd (lvC h3 (by omega))) (hR.pt (lvC h3 (by omega)) rfl (by decide)) rfl ?_
  refine zs_iconst (v := 1) (n := 10) dX3_write_9 (by decide) rfl ?_
  refine zs_bipush (v := 9) (n := 12) dX3_write_10 (by decide) rfl ?_
  refine zw_copy (r0 := 14) (r := 14) (n := 15) dX3_write_12 cpX3_15 hR (lvC h3 (by omega)) (lvC h3 (by omega)) (hR.kd (lvC h3 (by omega))) (hR.kd (lvC h3 (by omega))) (by decide) (by decide) (by decide) (by rw [hR.ln (lvC h3 (by omega)) rfl (by decide)]; decide) (by rw [hR.ln (lvC h3 (by omega)) rfl (by decide)]; decide) (by simp) rfl ?_
  intro M hR hv
  refine zs_aload_n (n := 16) dX3_write_15 rfl rfl ?_
  refine zs_getr (b := (Λ 14)) (n := 19) dX3_write_16 gf_X3_9 (hR.kd (lvC h3 (by omega))) (hR.pt (lvC h3 (by omega)) rfl (by decide)) rfl ?_
  refine zs_iconst (v := nI 0) (n := 20) dX3_write_19 (by decide) rfl ?_
  refine zs_iload_n (n := 21) dX3_write_20 rfl rfl ?_
  refine zw_ai (r := 14) (n := 22) dX3_write_21 hR (lvC h3 (by omega)) (hR.kd (lvC h3 (by omega))) (by rw [show mN M (Λ 14) = 10 from (hR.ln (lvC h3 (by omega)) rfl (by decide))]; exact vp_in_nI (by first | exact (show 0 < 10 from by decide) | omega) (by omega)) rfl ?_
  rw [nI_clamp (by omega)]
  intro M hR hv
  refine zs_aload_n (n := 23) dX3_write_22 rfl rfl ?_
  refine zs_aload_n (n := 24) dX3_write_23 rfl rfl ?_
  refine zs_getv (x := (sV (sc (wW S (u1 (sW S) 14 (va_cpy (sW S 14) (sW S 14) 0 1 9))), sV (wW S (u1 (sW S) 14 (va_cpy (sW S 14) (sW S 14) 0 1 9))), u2 (sW (wW S (u1 (sW S) 14 (va_cpy (sW S 14) (sW S 14) 0 1 9)))) 14 0 x, sT (wW S (u1 (sW S) 14 (va_cpy (sW S 14) (sW S 14) 0 1 9))), sP (wW S (u1 (sW S) 14 (va_cpy (sW S 14) (sW S 14) 0 1 9)))) 8 257)) (n := 27) dX3_write_24 gf_X3_21 (hR.kd (lvC h3 (by omega))) (hR.iv (lvC h3 (by omega)) (by decide) (by decide)) rfl ?_
  refine zs_iconst (v := 1) (n := 28) dX3_write_27 (by decide) rfl ?_
  refine zs_iadd (n := 29) dX3_write_28 rfl ?_
  refine zs_bipush (v := 10) (n := 31) dX3_write_29 (by decide) rfl ?_
  refine zs_min (n := 34) dX3_write_31 ⟨⟨tw_5 _ (List.mem_of_getElem? (i := 230) (by decide +kernel)), by decide +kernel⟩, w_i1, w_m2, w_i3⟩ (by simp) rfl ?_
  refine zw_i (r := 8) (n := 37) dX3_write_34 pf_X3_write_21 hR (lvC h3 (by omega)) (hR.kd (lvC h3 (by omega))) ⟨rfl, rfl⟩ (by decide) rfl ?_
  intro M hR hv
  refine zs_return dX3_write_37 rfl ?_
  exact hQ _ hR
def fTell (S : zSt) (r : Nat) (x : Int32) : Int32 := if x = 98 then sV S r 417 else if x = 101 then sV S r 418 else if x = 109 then sV S r 420 else if x = 115 then sV S r 419 else if x = 99 then sV S r 421 else sV S r 422
theorem c_tell {i k : Nat} {x : Int32} (hR : zRp Z Λ S M) (hi : i < sc S 0) (hk : k < sc S (10 + i)) (hx : x = 98 ∨ x = 101 ∨ x = 109 ∨ x = 115 ∨ x = 99 ∨ x = 100) : zD Z l 0 mth_X8_tell [.ref (Λ (160 + 8 * i + k)), .int x] M 0 0 (some (.int (fTell S (160 + 8 * i + k) x))) M := by
  intro Q hQ
  show zX Z l 0 mth_X8_tell 0 [(0, .ref (Λ (160 + 8 * i + k))), (1, .int x)] [] M 0 0 Q
  rcases hx with rfl | rfl | rfl | rfl | rfl | rfl
  · refine zs_iload_n (n := 1) dX8_tell_0 rfl rfl ?_
    refine zs_lookup (tgt := 52) (off := 51) dX8_tell_1 (by decide) (by decide) (by decide) ?_
    refine zs_aload_n (n := 53) dX8_tell_52 rfl rfl ?_
    refine zs_getv (x := (sV S (160 + 8 * i + k) 417)) (n := 56) dX8_tell_53 gf_X8_15 (hR.kK hi hk) (hR.iv (lvK hi hk) (by decide) (by decide)) rfl ?_
    refine zs_ireturn dX8_tell_56 ⟨_, rfl, rfl⟩ ?_
    exact hQ
  · refine zs_iload_n (n := 1) dX8_tell_0 rfl rfl ?_
    refine zs_lookup (tgt := 57) (off := 56) dX8_tell_1 (by decide) (by decide) (by decide) ?_
    refine zs_aload_n (n := 58) dX8_tell_57 rfl rfl ?_
    refine zs_getv (x := (sV S (160 + 8 * i + k) 418)) (n := 61) dX8_tell_58 gf_X8_23 (hR.kK hi hk) (hR.iv (lvK hi hk) (by decide) (by decide)) rfl ?_
    refine zs_ireturn dX8_tell_61 ⟨_, rfl, rfl⟩ ?_
    exact hQ
  · refine zs_iload_n (n := 1) dX8_tell_0 rfl rfl ?_
    refine zs_lookup (tgt := 62) (off := 61) dX8_tell_1 (by decide) (by decide) (by decide) ?_
    refine zs_aload_n (n := 63) dX8_tell_62 rfl rfl ?_
    refine zs_getv (x := (sV S (160 + 8 * i + k) 420)) (n := 66) dX8_tell_63 gf_X8_38 (hR.kK hi hk) (hR.iv (lvK hi hk) (by decide) (by decide)) rfl ?_
    refine zs_ireturn dX8_tell_66 ⟨_, rfl, rfl⟩ ?_
    exact hQ
  · refine zs_iload_n (n := 1) dX8_tell_0 rfl rfl ?_
    refine zs_lookup (tgt := 67) (off := 66) dX8_tell_1 (by decide) (by decide) (by decide) ?_
    refine zs_aload_n (n := 68) dX8_tell_67 rfl rfl ?_
    refine zs_getv (x := (sV S (160 + 8 * i + k) 419)) (n := 71) dX8_tell_68 gf_X8_35 (hR.kK hi hk) (hR.iv (lvK hi hk) (by decide) (by decide)) rfl ?_
    refine zs_ireturn dX8_tell_71 ⟨_, rfl, rfl⟩ ?_
    exact hQ
  · refine zs_iload_n (n := 1) dX8_tell_0 rfl rfl ?_
    refine zs_lookup (tgt := 72) (off := 71) dX8_tell_1 (by decide) (by decide) (by decide) ?_
    refine zs_aload_n (n := 73) dX8_tell_72 rfl rfl ?_
    refine zs_getv (x := (sV S (160 + 8 * i + k) 421)) (n := 76) dX8_tell_73 gf_X8_56 (hR.kK hi hk) (hR.iv (lvK hi hk) (by decide) (by decide)) rfl ?_
    refine zs_ireturn dX8_tell_76 ⟨_, rfl, rfl⟩ ?_
    exact hQ
  · refine zs_iload_n (n := 1) dX8_tell_0 rfl rfl ?_
    refine zs_lookup (tgt := 77) (off := 76) dX8_tell_1 (by decide) (by decide) (by decide) ?_
    refine zs_aload_n (n := 78) dX8_tell_77 rfl rfl ?_
    refine zs_getv (x := (sV S (160 + 8 * i + k) 422)) (n := 81) dX8_tell_78 gf_X8_59 (hR.kK hi hk) (hR.iv (lvK hi hk) (by decide) (by decide)) rfl ?_
    refine zs_ireturn dX8_tell_81 ⟨_, rfl, rfl⟩ ?_
    exact hQ
end ZMISC
