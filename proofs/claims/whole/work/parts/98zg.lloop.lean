/-! THE LAW 4: its loop, its beginning -/
section ZLAW5
variable {nm : String} {hh : List (Nat × Nat × Nat × Nat)} {Z : zPar} {l : Launch} {x m o od nc ns : Nat} {M M0 : zMem} {Q : zO → zMem → Prop} {S : zSt}
theorem and63 (y : Int32) : ∃ k, k < 64 ∧ y &&& 63 = nI k := by
  refine ⟨(y &&& 63).toBitVec.toNat, ?_, ?_⟩
  · rw [Int32.toBitVec_and, BitVec.toNat_and]
    exact Nat.lt_of_le_of_lt Nat.and_le_right (by decide)
  · refine Int32.toBitVec_inj.mp ?_
    show _ = BitVec.ofNat 32 (y &&& 63).toBitVec.toNat
    rw [BitVec.ofNat_toNat, BitVec.setWidth_eq]
theorem law_next {i : Nat} (hi : 6 * i < 2 ^ 30) (k : zX Z l 12 (mth_L nm hh) 28 (LL Z x m o od (6 * (i + 1))) [] M nc ns Q) : zX Z l 12 (mth_L nm hh) 2314 (LL Z x m o od (6 * i)) [] M nc ns Q := by
  refine zs_iinc (v := nI (6 * (i + 1))) (n := 2317) dL_law_2314 rfl ?_ (by show _ < 9; omega) rfl ?_
  · show nI (6 * i) + nI 6 = _
    rw [nI_add]
    congr 1
  refine zs_goto (tgt := 28) dL_law_2317 (by decide) ?_
  exact zX.sub (L' := LL Z x m o od (6 * (i + 1))) ⟨rfl, rfl, rfl, rfl, rfl, rfl, trivial⟩ k
theorem law_head {j : Nat} (k1 : nI (zPs Z).2.1 - 6 < nI j → zX Z l 12 (mth_L nm hh) 2320 (LL Z x m o od j) [] M nc ns Q) (k2 : ¬ nI (zPs Z).2.1 - 6 < nI j → zX Z l 12 (mth_L nm hh) 38 (LL Z x m o od j) [] M nc ns Q) : zX Z l 12 (mth_L nm hh) 28 (LL Z x m o od j) [] M nc ns Q := by
  refine zs_iload (n := 30) dL_law_28 rfl rfl ?_
  refine zs_aload_n (n := 31) dL_law_30 rfl rfl ?_
  refine zs_slen (n := 32) dL_law_31 rfl ?_
  refine zs_bipush (v := 6) (n := 34) dL_law_32 (by decide) rfl ?_
  refine zs_isub (n := 35) dL_law_34 rfl ?_
  exact zs_icmp_gt (tgt := 2320) (n := 38) dL_law_35 (by decide) rfl k1 k2
theorem law_loop (hN : (zPs Z).2.1 ≤ 3072) (hS : rRel S) (hM : zR Z x m o od S M) (hQ : ∀ M', Q (.inl (some (.int 1))) M') : zX Z l 12 (mth_L nm hh) 28 (LL Z x m o od 0) [] M (400 * ((zPs Z).2.1 / 6)) (2000 * ((zPs Z).2.1 / 6)) Q := by
  generalize hn : (zPs Z).2.1 / 6 = n
  have hn6 : 6 * n ≤ (zPs Z).2.1 ∧ (zPs Z).2.1 < 6 * n + 6 := by omega
  refine zloop (n := n) (X := fun i => ∀ S M, rRel S → zR Z x m o od S M → zX Z l 12 (mth_L nm hh) 28 (LL Z x m o od (6 * i)) [] M (400 * (n - i)) (2000 * (n - i)) Q) (fun i hi ih => ?_) ?_ 0 (Nat.zero_le _) S M hS hM
  · intro S M hS hM
    have hnx : ∀ S' M', rRel S' → zR Z x m o od S' M' → zX Z l 12 (mth_L nm hh) 2314 (LL Z x m o od (6 * i)) [] M' (400 * (n - (i + 1))) (2000 * (n - (i + 1))) Q := fun S' M' hS' hM' => law_next (by omega) (ih S' M' hS' hM')
    refine zX.more (nc' := 400 * (n - (i + 1)) + 200 + 200) (ns' := 2000 * (n - (i + 1)) + 1000 + 1000) ?_ (by omega) (by omega)
    refine law_head (fun h => ?_) (fun _ => ?_)
    · exfalso
      rw [show (6 : Int32) = nI 6 from rfl, nI_sub (by omega)] at h
      exact nI_nlt (by omega) (by omega) h
    refine zs_aload_n (n := 39) dL_law_38 rfl rfl ?_
    refine zs_iload (n := 41) dL_law_39 rfl rfl ?_
    refine zs_sld (n := 42) dL_law_41 (by omega) (by omega) rfl ?_
    refine zs_bipush (v := 63) (n := 44) dL_law_42 (by decide) rfl ?_
    refine zs_iand (n := 45) dL_law_44 rfl ?_
    obtain ⟨k, hk, e⟩ := and63 ((zPs Z).2.2 (6 * i))
    rw [e]
    rcases (show k = 0 ∨ k = 1 ∨ k = 2 ∨ k = 3 ∨ k = 4 ∨ k = 5 ∨ k = 6 ∨ k = 7 ∨ k = 8 ∨ k = 9 ∨ k = 10 ∨ k = 11 ∨ k = 12 ∨ k = 13 ∨ k = 14 ∨ k = 15 ∨ k = 16 ∨ k = 17 ∨ k = 18 ∨ k = 19 ∨ k = 20 ∨ k = 21 ∨ k = 22 ∨ k = 23 ∨ k = 24 ∨ k = 25 ∨ k = 26 ∨ k = 27 ∨ k = 28 ∨ k = 29 ∨ k = 30 ∨ k = 31 ∨ k = 32 ∨ k = 33 ∨ k = 34 ∨ 35 ≤ k from by omega) with rfl | rfl | rfl | rfl | rfl | rfl | rfl | rfl | rfl | rfl | rfl | rfl | rfl | rfl | rfl | rfl | rfl | rfl | rfl | rfl | rfl | rfl | rfl | rfl | rfl | rfl | rfl | rfl | rfl | rfl | rfl | rfl | rfl | rfl | rfl | h35
    · refine zs_tableIn (off := 155) (tgt := 200) dL_law_45 (by decide) (by decide) (by decide) (by decide) ?_
      exact lc_0 (by omega) (by omega) hS hM hnx
    · refine zs_tableIn (off := 251) (tgt := 296) dL_law_45 (by decide) (by decide) (by decide) (by decide) ?_
      exact lc_1 (by omega) (by omega) hS hM hnx
    · refine zs_tableIn (off := 331) (tgt := 376) dL_law_45 (by decide) (by decide) (by decide) (by decide) ?_
      exact lc_2 (by omega) (by omega) hS hM hnx
    · refine zs_tableIn (off := 399) (tgt := 444) dL_law_45 (by decide) (by decide) (by decide) (by decide) ?_
      exact lc_3 (by omega) (by omega) hS hM hnx
    · refine zs_tableIn (off := 519) (tgt := 564) dL_law_45 (by decide) (by decide) (by decide) (by decide) ?_
      exact lc_4 (by omega) (by omega) hS hM hnx
    · refine zs_tableIn (off := 587) (tgt := 632) dL_law_45 (by decide) (by decide) (by decide) (by decide) ?_
      exact lc_5 (by omega) (by omega) hS hM hnx
    · refine zs_tableIn (off := 678) (tgt := 723) dL_law_45 (by decide) (by decide) (by decide) (by decide) ?_
      exact lc_6 (by omega) (by omega) hS hM hnx
    · refine zs_tableIn (off := 753) (tgt := 798) dL_law_45 (by decide) (by decide) (by decide) (by decide) ?_
      exact lc_7 (by omega) (by omega) hS hM hnx
    · refine zs_tableIn (off := 828) (tgt := 873) dL_law_45 (by decide) (by decide) (by decide) (by decide) ?_
      exact lc_8 (by omega) (by omega) hS hM hnx
    · refine zs_tableIn (off := 841) (tgt := 886) dL_law_45 (by decide) (by decide) (by decide) (by decide) ?_
      exact lc_9 (by omega) (by omega) hS hM hnx
    · refine zs_tableIn (off := 909) (tgt := 954) dL_law_45 (by decide) (by decide) (by decide) (by decide) ?_
      exact lc_10 (by omega) (by omega) hS hM hnx
    · refine zs_tableIn (off := 922) (tgt := 967) dL_law_45 (by decide) (by decide) (by decide) (by decide) ?_
      exact lc_11 (by omega) (by omega) hS hM hnx
    · refine zs_tableIn (off := 978) (tgt := 1023) dL_law_45 (by decide) (by decide) (by decide) (by decide) ?_
      exact lc_12 (by omega) (by omega) hS hM hnx
    · refine zs_tableIn (off := 1034) (tgt := 1079) dL_law_45 (by decide) (by decide) (by decide) (by decide) ?_
      exact lc_13 (by omega) (by omega) hS hM hnx
    · refine zs_tableIn (off := 1102) (tgt := 1147) dL_law_45 (by decide) (by decide) (by decide) (by decide) ?_
      exact lc_14 (by omega) (by omega) hS hM hnx
    · refine zs_tableIn (off := 1146) (tgt := 1191) dL_law_45 (by decide) (by decide) (by decide) (by decide) ?_
      exact lc_15 (by omega) (by omega) hS hM hnx
    · refine zs_tableIn (off := 1233) (tgt := 1278) dL_law_45 (by decide) (by decide) (by decide) (by decide) ?_
      exact lc_16 (by omega) (by omega) hS hM hnx
    · refine zs_tableIn (off := 1301) (tgt := 1346) dL_law_45 (by decide) (by decide) (by decide) (by decide) ?_
      exact lc_17 (by omega) (by omega) hS hM hnx
    · refine zs_tableIn (off := 1369) (tgt := 1414) dL_law_45 (by decide) (by decide) (by decide) (by decide) ?_
      exact lc_18 (by omega) (by omega) hS hM hnx
    · refine zs_tableIn (off := 1425) (tgt := 1470) dL_law_45 (by decide) (by decide) (by decide) (by decide) ?_
      exact lc_19 (by omega) (by omega) hS hM hnx
    · refine zs_tableIn (off := 1493) (tgt := 1538) dL_law_45 (by decide) (by decide) (by decide) (by decide) ?_
      exact lc_20 (by omega) (by omega) hS hM hnx
    · refine zs_tableIn (off := 1561) (tgt := 1606) dL_law_45 (by decide) (by decide) (by decide) (by decide) ?_
      exact lc_21 (by omega) (by omega) hS hM hnx
    · refine zs_tableIn (off := 1629) (tgt := 1674) dL_law_45 (by decide) (by decide) (by decide) (by decide) ?_
      exact lc_22 (by omega) (by omega) hS hM hnx
    · refine zs_tableIn (off := 1673) (tgt := 1718) dL_law_45 (by decide) (by decide) (by decide) (by decide) ?_
      exact lc_23 (by omega) (by omega) hS hM hnx
    · refine zs_tableIn (off := 1755) (tgt := 1800) dL_law_45 (by decide) (by decide) (by decide) (by decide) ?_
      exact lc_24 (by omega) (by omega) hS hM hnx
    · refine zs_tableIn (off := 1830) (tgt := 1875) dL_law_45 (by decide) (by decide) (by decide) (by decide) ?_
      exact lc_25 (by omega) (by omega) hS hM hnx
    · refine zs_tableIn (off := 1886) (tgt := 1931) dL_law_45 (by decide) (by decide) (by decide) (by decide) ?_
      exact lc_26 (by omega) (by omega) hS hM hnx
    · refine zs_tableIn (off := 1942) (tgt := 1987) dL_law_45 (by decide) (by decide) (by decide) (by decide) ?_
      exact lc_27 (by omega) (by omega) hS hM hnx
    · refine zs_tableIn (off := 1998) (tgt := 2043) dL_law_45 (by decide) (by decide) (by decide) (by decide) ?_
      exact lc_28 (by omega) (by omega) hS hM hnx
    · refine zs_tableIn (off := 2011) (tgt := 2056) dL_law_45 (by decide) (by decide) (by decide) (by decide) ?_
      exact lc_29 (by omega) (by omega) hS hM hnx
    · refine zs_tableIn (off := 2055) (tgt := 2100) dL_law_45 (by decide) (by decide) (by decide) (by decide) ?_
      exact lc_30 (by omega) (by omega) hS hM hnx
    · refine zs_tableIn (off := 2111) (tgt := 2156) dL_law_45 (by decide) (by decide) (by decide) (by decide) ?_
      exact lc_31 (by omega) (by omega) hS hM hnx
    · refine zs_tableIn (off := 2125) (tgt := 2170) dL_law_45 (by decide) (by decide) (by decide) (by decide) ?_
      exact lc_32 (by omega) (by omega) hS hM hnx
    · refine zs_tableIn (off := 2191) (tgt := 2236) dL_law_45 (by decide) (by decide) (by decide) (by decide) ?_
      exact lc_33 (by omega) (by omega) hS hM hnx
    · refine zs_tableIn (off := 2256) (tgt := 2301) dL_law_45 (by decide) (by decide) (by decide) (by decide) ?_
      exact lc_34 (by omega) (by omega) hS hM hnx
    · refine zs_tableOut (tgt := 2314) dL_law_45 (Or.inr (by rw [nI_toInt (by omega)]; omega)) (by decide) ?_
      exact zX.more (hnx S M hS hM) (by omega) (by omega)
  · intro S M hS hM
    refine law_head (fun _ => ?_) (fun h => ?_)
    · refine zs_iconst (v := 1) (n := 2321) dL_law_2320 (by decide) rfl ?_
      refine zs_ireturn dL_law_2321 ⟨_, rfl, rfl⟩ ?_
      exact hQ M
    · exfalso
      refine h ?_
      by_cases g : 6 ≤ (zPs Z).2.1
      · rw [show (6 : Int32) = nI 6 from rfl, nI_sub g]
        exact nI_lt (by omega) (by omega)
      · have h0 : n = 0 := by omega
        rw [h0]
        generalize (zPs Z).2.1 = N at g
        rcases (show N = 0 ∨ N = 1 ∨ N = 2 ∨ N = 3 ∨ N = 4 ∨ N = 5 from by omega) with rfl | rfl | rfl | rfl | rfl | rfl <;> decide
theorem zlv_none {s : Nat} (hs : zlv (fun _ => 0) s) : False := by
  rcases hs with hs | hs
  · rcases hs with ⟨h3, -⟩ | ⟨i, hi, -⟩ | ⟨i, hi, -⟩ | ⟨i, hi, -⟩ | ⟨i, k, hi, -, -⟩
    · exact absurd h3 (by decide)
    · exact absurd hi (Nat.not_lt_zero _)
    · exact absurd hi (Nat.not_lt_zero _)
    · exact absurd hi (Nat.not_lt_zero _)
    · exact absurd hi (Nat.not_lt_zero _)
  · rcases hs with ⟨h3, -⟩ | ⟨i, hi, -⟩ | ⟨i, hi, -⟩ | ⟨i, hi, -⟩ | ⟨i, k, hi, -, -⟩
    · exact absurd h3 (by decide)
    · exact absurd hi (Nat.not_lt_zero _)
    · exact absurd hi (Nat.not_lt_zero _)
    · exact absurd hi (Nat.not_lt_zero _)
    · exact absurd hi (Nat.not_lt_zero _)
theorem zlv_A {s : Nat} (hs : zlv (sc sA) s) : s < 1000 := by
  rcases hs with hs | hs
  · rcases hs with ⟨-, h⟩ | ⟨i, hi, -⟩ | ⟨i, hi, -⟩ | ⟨i, hi, -⟩ | ⟨i, k, hi, -, -⟩
    · omega
    · exact absurd hi (Nat.not_lt_zero _)
    · exact absurd hi (Nat.not_lt_zero _)
    · exact absurd hi (Nat.not_lt_zero _)
    · exact absurd hi (Nat.not_lt_zero _)
  · rcases hs with ⟨h3, -⟩ | ⟨i, hi, -⟩ | ⟨i, hi, -⟩ | ⟨i, hi, -⟩ | ⟨i, k, hi, -, -⟩
    · exact absurd h3 (by decide)
    · exact absurd hi (Nat.not_lt_zero _)
    · exact absurd hi (Nat.not_lt_zero _)
    · exact absurd hi (Nat.not_lt_zero _)
    · exact absurd hi (Nat.not_lt_zero _)
set_option maxHeartbeats 1000000 in
theorem law_all (hE : zEmp Z M0) (hN : (zPs Z).2.1 ≤ 3072) (hQ : ∀ M', Q (.inl (some (.int 1))) M') : zX Z l 12 (mth_L nm hh) 0 (lv_args 0 [.ref (zPs Z).1]) [] M0 (400 * ((zPs Z).2.1 / 6) + 34) (2000 * ((zPs Z).2.1 / 6) + 514) Q := by
  generalize hc : 400 * ((zPs Z).2.1 / 6) = C
  generalize hs : 2000 * ((zPs Z).2.1 / 6) = D
  show zX Z l 12 (mth_L nm hh) 0 [(0, .ref (zPs Z).1)] [] M0 (C + 34) (D + 514) Q
  refine zh_new (N := 7) (nc1 := C + 33) (ns1 := D + 507) (n := 3) 1 dL_law_0 nc_L_8 (zPic.nil (M := M0) (Λ := fun _ => 0)) rfl (by decide) rfl (by omega) (by omega) ?_
  intro x M hP
  refine zs_dup (n := 4) dL_law_3 rfl rfl ?_
  refine zg_I (n := 7) (As := []) (mc := 16) (ms := 400) (nc1 := C + 17) (ns1 := D + 107) dL_law_4 ok_X11_init ⟨ml_L_124, im_X11_init, rfl, rfl⟩ rfl (Nat.le_of_ble_eq_true rfl) (by simp) (show 4 < 12 by omega) (by omega) (by omega) rfl rfl (h_X11_init rfl hP rfl rfl rfl rfl rfl rfl rfl rfl rfl rfl rfl rfl rfl rfl rfl rfl rfl rfl) ?_
  rintro M1 ⟨q0, q1, q2, q3, q4, q5, q6, q7, q8, q9, q10, q11, q12, q13, q14, q15, hP⟩
  have hR1 := z_newX (zRp_start (Λ := fun _ => 0) (V := fun _ _ => 0) (W := fun _ _ => 0) (T := fun _ _ => 0) (P := fun _ => 0) hE (by decide)) hP rfl rfl rfl rfl (fun s h => (zlv_none h).elim)
  refine zs_astore_n (n := 8) dL_law_7 (by show _ < 9; omega) rfl ?_
  have hx : (u1 (u1 (u1 (u1 (u1 (u1 (u1 (u1 (u1 (u1 (u1 (u1 (u1 (u1 (u1 (u1 (u1 (u1 (u1 (u1 (fun _ => 0) 1 x) 2 q0) 15 q1) 17 q2) 3 q3) 9 q4) 10 q5) 4 q6) 11 q7) 12 q8) 13 q9) 5 q10) 6 q11) 7 q12) 19 q13) 8 q14) 14 q15) 16 (zPe Z)) 18 (zPe Z)) 20 (zPe Z)) 1 = x := rfl
  generalize (u1 (u1 (u1 (u1 (u1 (u1 (u1 (u1 (u1 (u1 (u1 (u1 (u1 (u1 (u1 (u1 (u1 (u1 (u1 (u1 (fun _ => 0) 1 x) 2 q0) 15 q1) 17 q2) 3 q3) 9 q4) 10 q5) 4 q6) 11 q7) 12 q8) 13 q9) 5 q10) 6 q11) 7 q12) 19 q13) 8 q14) 14 q15) 16 (zPe Z)) 18 (zPe Z)) 20 (zPe Z)) = Λ1 at hR1 hx
  have hR1 : zRp Z Λ1 sA M1 := hR1
  clear hP
  refine zh_new (N := 18) (nc1 := C + 16) (ns1 := D + 89) (n := 11) 1001 dL_law_8 nc_L_125 (zPic.nil (M := M1) (Λ := Λ1)) rfl (by decide) rfl (by omega) (by omega) ?_
  intro m M2 hP
  refine zs_dup (n := 12) dL_law_11 rfl rfl ?_
  refine zg_I (n := 15) (As := []) (mc := 14) (ms := 87) (nc1 := C + 2) (ns1 := D + 2) dL_law_12 ok_X16_init ⟨ml_L_127, im_X16_init, rfl, rfl⟩ rfl (Nat.le_of_ble_eq_true rfl) (by simp) (show 3 < 12 by omega) (by omega) (by omega) rfl rfl (h_X16_init hP) ?_
  rintro M3 ⟨p0', p1', p2', p3', p4', p5', r, hP⟩
  have hR2 := z_newM hR1 hP rfl rfl rfl rfl rfl rfl (fun s h => zlv_A h)
  refine zs_astore_n (n := 16) dL_law_15 (by show _ < 9; omega) rfl ?_
  have hx2 : (u1 (u1 (u1 (u1 (u1 (lamM (u1 (u1 (u1 (u1 (u1 (u1 Λ1 1001 m) 1015 p0') 1017 p1') 1019 p2') 1021 p3') 1023 p4') p5' r) 1016 (zPe Z)) 1018 (zPe Z)) 1020 (zPe Z)) 1022 (zPe Z)) 1024 (zPe Z)) 1 = x := hx
  have hm2 : (u1 (u1 (u1 (u1 (u1 (lamM (u1 (u1 (u1 (u1 (u1 (u1 Λ1 1001 m) 1015 p0') 1017 p1') 1019 p2') 1021 p3') 1023 p4') p5' r) 1016 (zPe Z)) 1018 (zPe Z)) 1020 (zPe Z)) 1022 (zPe Z)) 1024 (zPe Z)) 1001 = m := rfl
  generalize (u1 (u1 (u1 (u1 (u1 (lamM (u1 (u1 (u1 (u1 (u1 (u1 Λ1 1001 m) 1015 p0') 1017 p1') 1019 p2') 1021 p3') 1023 p4') p5' r) 1016 (zPe Z)) 1018 (zPe Z)) 1020 (zPe Z)) 1022 (zPe Z)) 1024 (zPe Z)) = Λ2 at hR2 hx2 hm2
  have hR2 : zRp Z Λ2 sB M3 := hR2
  clear hP
  refine zs_iconst (v := 1) (n := 17) dL_law_16 (by decide) rfl ?_
  refine zs_newJ (N := 1) (nc1 := C + 1) (ns1 := D + 1) (n := 19) 0 dL_law_17 w_ac_long (by decide) (by decide) (by omega) rfl (by omega) (by omega) (fun o ho => ?_)
  refine zs_astore_n (n := 20) dL_law_19 (by show _ < 9; omega) rfl ?_
  refine zs_iconst (v := 1) (n := 21) dL_law_20 (by decide) rfl ?_
  refine zs_newD (N := 1) (nc1 := C) (ns1 := D) (n := 23) 0 dL_law_21 w_ac_double (by decide) (by decide) (by omega) rfl (by omega) (by omega) (fun od hod => ?_)
  refine zs_astore (n := 25) dL_law_23 (by show _ < 9; omega) rfl ?_
  have hR3 : zRp Z (u1 (u1 Λ2 40 o) 41 od) sI0 (zNew (zNew M3 o 5 1 0) od 6 1 0) := zRp_rows hR2 rfl (by decide) rfl rfl ho hod
  refine zs_iconst (v := 0) (n := 26) dL_law_25 (by decide) rfl ?_
  refine zs_istore (n := 28) dL_law_26 (by show _ < 9; omega) rfl ?_
  refine zX.sub (L' := LL Z x m o od 0) ⟨rfl, rfl, rfl, rfl, rfl, rfl, trivial⟩ ?_
  rw [← hc, ← hs]
  exact law_loop hN rel_0 ⟨_, hR3, (u1_ne (by decide)).trans ((u1_ne (by decide)).trans hx2), (u1_ne (by decide)).trans ((u1_ne (by decide)).trans hm2), (u1_ne (by decide)).trans u1_at, u1_at⟩ hQ
end ZLAW5
