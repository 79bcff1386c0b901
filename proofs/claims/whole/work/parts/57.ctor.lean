/-! CONSTRUCTORS of the class -/
section ZCTOR
variable {Z : zPar} {l : Launch} {M0 M : zMem} {Λ : Nat → Nat}
theorem h_X7_init {p : zPc} {a9 : Nat} (ha : Λ 2 = a9) (hP : zPic M0 Λ p M) (hl0 : p.1 2 = true) (hk0 : p.2.1 2 = 22) (hf0 : p.1 15 = false) (hf1 : p.1 17 = false) : zG Z l 3 mth_X7_init [.ref a9] M 2 6 none (fun M' => ∃ q0 q1, zPic M0 (u1 (u1 Λ 15 q0) 17 q1) (pSR (pSR (pSI (pNew (pSR (pSR (pSI (pNew p 15 14 0) 15 128 0) 15 129 (some (zPe Z))) 2 384 (some q0)) 17 14 0) 17 128 0) 17 129 (some (zPe Z))) 2 385 (some q1)) M') := by
  intro Q hQ
  subst ha
  show zX Z l 3 mth_X7_init 0 [(0, .ref (Λ 2))] [] M 2 6 Q
  refine zs_aload_n (n := 1) dX7_init_0 rfl rfl ?_
  refine zs_objInit (n := 4) dX7_init_1 ml_X7_1 w_oi w_oc (by simp) rfl ?_
  refine zs_aload_n (n := 5) dX7_init_4 rfl rfl ?_
  refine zh_new (N := 3) (nc1 := 1) (ns1 := 3) (n := 8) 15 dX7_init_5 nc_X7_7 hP hf0 (by decide) rfl (by omega) (by omega) ?_
  intro q0 M hP
  refine zs_dup (n := 9) dX7_init_8 rfl rfl ?_
  refine zh_linit (r := 15) (n := 12) lNa dX7_init_9 ml_X7_9 hP qNa (kNa) (by simp) (by omega) rfl ?_
  intro M hP
  refine zh_putr (r := 2) (n := 15) (lNn (by omega) rfl) dX7_init_12 pf_X7_init_10 hP (qRn (qIn (qNn (by omega) hl0))) ((kRn (kIn (kNn (by omega) hk0)))) ⟨rfl, rfl⟩ rfl ?_
  intro M hP
  refine zs_aload_n (n := 16) dX7_init_15 rfl rfl ?_
  refine zh_new (N := 3) (nc1 := 0) (ns1 := 0) (n := 19) 17 dX7_init_16 nc_X7_7 hP (qRn (qRn (qIn (qNn (by omega) hf1)))) (by decide) rfl (by omega) (by omega) ?_
  intro q1 M hP
  refine zs_dup (n := 20) dX7_init_19 rfl rfl ?_
  refine zh_linit (r := 17) (n := 23) lNa dX7_init_20 ml_X7_9 hP qNa (kNa) (by simp) (by omega) rfl ?_
  intro M hP
  refine zh_putr (r := 2) (n := 26) (lNn (by omega) (lNn (by omega) rfl)) dX7_init_23 pf_X7_init_16 hP (qRn (qIn (qNn (by omega) (qRn (qRn (qIn (qNn (by omega) hl0))))))) ((kRn (kIn (kNn (by omega) (kRn (kRn (kIn (kNn (by omega) hk0)))))))) ⟨rfl, rfl⟩ rfl ?_
  intro M hP
  refine zs_return dX7_init_26 rfl (hQ _ ?_)
  exact ⟨q0, q1, hP⟩
theorem h_X1_init {p : zPc} {a9 : Nat} (ha : Λ 3 = a9) (hP : zPic M0 Λ p M) (hl0 : p.1 3 = true) (hk0 : p.2.1 3 = 16) (hf0 : p.1 9 = false) (hf1 : p.1 10 = false) : zG Z l 3 mth_X1_init [.ref a9] M 2 264 none (fun M' => ∃ q0 q1, zPic M0 (u1 (u1 Λ 9 q0) 10 q1) (pSR (pNew (pSR (pNew p 9 1 8) 3 192 (some q0)) 10 1 256) 3 193 (some q1)) M') := by
  intro Q hQ
  subst ha
  show zX Z l 3 mth_X1_init 0 [(0, .ref (Λ 3))] [] M 2 264 Q
  refine zs_aload_n (n := 1) dX1_init_0 rfl rfl ?_
  refine zs_objInit (n := 4) dX1_init_1 ml_X1_3 w_oi w_oc (by simp) rfl ?_
  refine zs_aload_n (n := 5) dX1_init_4 rfl rfl ?_
  refine zs_bipush (v := 8) (n := 7) dX1_init_5 (by decide) rfl ?_
  refine zh_newI (N := 8) (nc1 := 1) (ns1 := 256) (n := 9) 9 dX1_init_7 w_ac_int hP hf0 (by decide) (by decide +kernel) (by decide) rfl (by omega) (by omega) ?_
  intro q0 M hP
  refine zh_putr (r := 3) (n := 12) (lNn (by omega) rfl) dX1_init_9 pf_X1_init_9 hP (qNn (by omega) hl0) ((kNn (by omega) hk0)) ⟨rfl, rfl⟩ rfl ?_
  intro M hP
  refine zs_aload_n (n := 13) dX1_init_12 rfl rfl ?_
  refine zs_sipush (v := 256) (n := 16) dX1_init_13 (by decide) rfl ?_
  refine zh_newI (N := 256) (nc1 := 0) (ns1 := 0) (n := 18) 10 dX1_init_16 w_ac_int hP (qRn (qNn (by omega) hf1)) (by decide) (by decide +kernel) (by decide) rfl (by omega) (by omega) ?_
  intro q1 M hP
  refine zh_putr (r := 3) (n := 21) (lNn (by omega) (lNn (by omega) rfl)) dX1_init_18 pf_X1_init_15 hP (qNn (by omega) (qRn (qNn (by omega) hl0))) ((kNn (by omega) (kRn (kNn (by omega) hk0)))) ⟨rfl, rfl⟩ rfl ?_
  intro M hP
  refine zs_return dX1_init_21 rfl (hQ _ ?_)
  exact ⟨q0, q1, hP⟩
theorem h_X5_init {p : zPc} {a9 : Nat} (ha : Λ 4 = a9) (hP : zPic M0 Λ p M) (hl0 : p.1 4 = true) (hk0 : p.2.1 4 = 20) (hf0 : p.1 11 = false) (hf1 : p.1 12 = false) (hf2 : p.1 13 = false) : zG Z l 3 mth_X5_init [.ref a9] M 3 24 none (fun M' => ∃ q0 q1 q2, zPic M0 (u1 (u1 (u1 Λ 11 q0) 12 q1) 13 q2) (pSI (pSR (pNew (pSR (pNew (pSR (pNew p 11 1 8) 4 320 (some q0)) 12 1 8) 4 321 (some q1)) 13 1 8) 4 322 (some q2)) 4 325 1) M') := by
  intro Q hQ
  subst ha
  show zX Z l 3 mth_X5_init 0 [(0, .ref (Λ 4))] [] M 3 24 Q
  refine zs_aload_n (n := 1) dX5_init_0 rfl rfl ?_
  refine zs_objInit (n := 4) dX5_init_1 ml_X5_3 w_oi w_oc (by simp) rfl ?_
  refine zs_aload_n (n := 5) dX5_init_4 rfl rfl ?_
  refine zs_bipush (v := 8) (n := 7) dX5_init_5 (by decide) rfl ?_
  refine zh_newI (N := 8) (nc1 := 2) (ns1 := 16) (n := 9) 11 dX5_init_7 w_ac_int hP hf0 (by decide) (by decide +kernel) (by decide) rfl (by omega) (by omega) ?_
  intro q0 M hP
  refine zh_putr (r := 4) (n := 12) (lNn (by omega) rfl) dX5_init_9 pf_X5_init_9 hP (qNn (by omega) hl0) ((kNn (by omega) hk0)) ⟨rfl, rfl⟩ rfl ?_
  intro M hP
  refine zs_aload_n (n := 13) dX5_init_12 rfl rfl ?_
  refine zs_bipush (v := 8) (n := 15) dX5_init_13 (by decide) rfl ?_
  refine zh_newI (N := 8) (nc1 := 1) (ns1 := 8) (n := 17) 12 dX5_init_15 w_ac_int hP (qRn (qNn (by omega) hf1)) (by decide) (by decide +kernel) (by decide) rfl (by omega) (by omega) ?_
  intro q1 M hP
  refine zh_putr (r := 4) (n := 20) (lNn (by omega) (lNn (by omega) rfl)) dX5_init_17 pf_X5_init_15 hP (qNn (by omega) (qRn (qNn (by omega) hl0))) ((kNn (by omega) (kRn (kNn (by omega) hk0)))) ⟨rfl, rfl⟩ rfl ?_
  intro M hP
  refine zs_aload_n (n := 21) dX5_init_20 rfl rfl ?_
  refine zs_bipush (v := 8) (n := 23) dX5_init_21 (by decide) rfl ?_
  refine zh_newI (N := 8) (nc1 := 0) (ns1 := 0) (n := 25) 13 dX5_init_23 w_ac_int hP (qRn (qNn (by omega) (qRn (qNn (by omega) hf2)))) (by decide) (by decide +kernel) (by decide) rfl (by omega) (by omega) ?_
  intro q2 M hP
  refine zh_putr (r := 4) (n := 28) (lNn (by omega) (lNn (by omega) (lNn (by omega) rfl))) dX5_init_25 pf_X5_init_18 hP (qNn (by omega) (qRn (qNn (by omega) (qRn (qNn (by omega) hl0))))) ((kNn (by omega) (kRn (kNn (by omega) (kRn (kNn (by omega) hk0)))))) ⟨rfl, rfl⟩ rfl ?_
  intro M hP
  refine zs_aload_n (n := 29) dX5_init_28 rfl rfl ?_
  refine zs_iconst (v := 1) (n := 30) dX5_init_29 (by decide) rfl ?_
  refine zh_puti (r := 4) (n := 33) (lNn (by omega) (lNn (by omega) (lNn (by omega) rfl))) dX5_init_30 pf_X5_init_21 hP (qRn (qNn (by omega) (qRn (qNn (by omega) (qRn (qNn (by omega) hl0)))))) ((kRn (kNn (by omega) (kRn (kNn (by omega) (kRn (kNn (by omega) hk0))))))) ⟨rfl, rfl⟩ rfl ?_
  intro M hP
  refine zs_return dX5_init_33 rfl (hQ _ ?_)
  exact ⟨q0, q1, q2, hP⟩
theorem h_X10_init {p : zPc} {a9 : Nat} (ha : Λ 5 = a9) (hP : zPic M0 Λ p M) (hl0 : p.1 5 = true) (hk0 : p.2.1 5 = 25)  : zG Z l 3 mth_X10_init [.ref a9] M 0 0 none (fun M' => zPic M0 Λ (pSI p 5 481 (-1)) M') := by
  intro Q hQ
  subst ha
  show zX Z l 3 mth_X10_init 0 [(0, .ref (Λ 5))] [] M 0 0 Q
  refine zs_aload_n (n := 1) dX10_init_0 rfl rfl ?_
  refine zs_objInit (n := 4) dX10_init_1 ml_X10_1 w_oi w_oc (by simp) rfl ?_
  refine zs_aload_n (n := 5) dX10_init_4 rfl rfl ?_
  refine zs_iconst (v := -1) (n := 6) dX10_init_5 (by decide) rfl ?_
  refine zh_puti (r := 5) (n := 9) rfl dX10_init_6 pf_X10_init_7 hP hl0 (hk0) ⟨rfl, rfl⟩ rfl ?_
  intro M hP
  refine zs_return dX10_init_9 rfl (hQ _ ?_)
  exact hP
theorem h_X4_init {p : zPc} {a9 : Nat} (ha : Λ 6 = a9) (hP : zPic M0 Λ p M) (hl0 : p.1 6 = true) (hk0 : p.2.1 6 = 19)  : zG Z l 3 mth_X4_init [.ref a9] M 0 0 none (fun M' => zPic M0 Λ (pSI p 6 288 99) M') := by
  intro Q hQ
  subst ha
  show zX Z l 3 mth_X4_init 0 [(0, .ref (Λ 6))] [] M 0 0 Q
  refine zs_aload_n (n := 1) dX4_init_0 rfl rfl ?_
  refine zs_objInit (n := 4) dX4_init_1 ml_X4_3 w_oi w_oc (by simp) rfl ?_
  refine zs_aload_n (n := 5) dX4_init_4 rfl rfl ?_
  refine zs_bipush (v := 99) (n := 7) dX4_init_5 (by decide) rfl ?_
  refine zh_puti (r := 6) (n := 10) rfl dX4_init_7 pf_X4_init_9 hP hl0 (hk0) ⟨rfl, rfl⟩ rfl ?_
  intro M hP
  refine zs_return dX4_init_10 rfl (hQ _ ?_)
  exact hP
theorem h_X2_init {p : zPc} {a9 : Nat} {a0 : Nat} {a1 : Nat} {a2 : Nat} (ha : Λ 7 = a9) (hP : zPic M0 Λ p M) (hl0 : p.1 7 = true) (hk0 : p.2.1 7 = 17) (hf0 : p.1 19 = false) : zG Z l 3 mth_X2_init [.ref a9, .ref a0, .ref a1, .ref a2] M 1 3 none (fun M' => ∃ q0, zPic M0 (u1 Λ 19 q0) (pSR (pSR (pSI (pNew (pSR (pSR (pSR p 7 224 (some a0)) 7 225 (some a1)) 7 226 (some a2)) 19 14 0) 19 128 0) 19 129 (some (zPe Z))) 7 227 (some q0)) M') := by
  intro Q hQ
  subst ha
  show zX Z l 3 mth_X2_init 0 [(0, .ref (Λ 7)), (1, .ref a0), (2, .ref a1), (3, .ref a2)] [] M 1 3 Q
  refine zs_aload_n (n := 1) dX2_init_0 rfl rfl ?_
  refine zs_objInit (n := 4) dX2_init_1 ml_X2_3 w_oi w_oc (by simp) rfl ?_
  refine zs_aload_n (n := 5) dX2_init_4 rfl rfl ?_
  refine zs_aload_n (n := 6) dX2_init_5 rfl rfl ?_
  refine zh_putr (r := 7) (n := 9) rfl dX2_init_6 pf_X2_init_9 hP hl0 (hk0) ⟨rfl, rfl⟩ rfl ?_
  intro M hP
  refine zs_aload_n (n := 10) dX2_init_9 rfl rfl ?_
  refine zs_aload_n (n := 11) dX2_init_10 rfl rfl ?_
  refine zh_putr (r := 7) (n := 14) rfl dX2_init_11 pf_X2_init_15 hP (qRn hl0) ((kRn hk0)) ⟨rfl, rfl⟩ rfl ?_
  intro M hP
  refine zs_aload_n (n := 15) dX2_init_14 rfl rfl ?_
  refine zs_aload_n (n := 16) dX2_init_15 rfl rfl ?_
  refine zh_putr (r := 7) (n := 19) rfl dX2_init_16 pf_X2_init_19 hP (qRn (qRn hl0)) ((kRn (kRn hk0))) ⟨rfl, rfl⟩ rfl ?_
  intro M hP
  refine zs_aload_n (n := 20) dX2_init_19 rfl rfl ?_
  refine zh_new (N := 3) (nc1 := 0) (ns1 := 0) (n := 23) 19 dX2_init_20 nc_X2_23 hP (qRn (qRn (qRn hf0))) (by decide) rfl (by omega) (by omega) ?_
  intro q0 M hP
  refine zs_dup (n := 24) dX2_init_23 rfl rfl ?_
  refine zh_linit (r := 19) (n := 27) lNa dX2_init_24 ml_X2_25 hP qNa (kNa) (by simp) (by omega) rfl ?_
  intro M hP
  refine zh_putr (r := 7) (n := 30) (lNn (by omega) rfl) dX2_init_27 pf_X2_init_26 hP (qRn (qIn (qNn (by omega) (qRn (qRn (qRn hl0)))))) ((kRn (kIn (kNn (by omega) (kRn (kRn (kRn hk0))))))) ⟨rfl, rfl⟩ rfl ?_
  intro M hP
  refine zs_return dX2_init_30 rfl (hQ _ ?_)
  exact ⟨q0, hP⟩
theorem h_X3_init {p : zPc} {a9 : Nat} (ha : Λ 8 = a9) (hP : zPic M0 Λ p M) (hl0 : p.1 8 = true) (hk0 : p.2.1 8 = 18) (hf0 : p.1 14 = false) : zG Z l 3 mth_X3_init [.ref a9] M 1 10 none (fun M' => ∃ q0, zPic M0 (u1 Λ 14 q0) (pSR (pNew p 14 1 10) 8 256 (some q0)) M') := by
  intro Q hQ
  subst ha
  show zX Z l 3 mth_X3_init 0 [(0, .ref (Λ 8))] [] M 1 10 Q
  refine zs_aload_n (n := 1) dX3_init_0 rfl rfl ?_
  refine zs_objInit (n := 4) dX3_init_1 ml_X3_3 w_oi w_oc (by simp) rfl ?_
  refine zs_aload_n (n := 5) dX3_init_4 rfl rfl ?_
  refine zs_bipush (v := 10) (n := 7) dX3_init_5 (by decide) rfl ?_
  refine zh_newI (N := 10) (nc1 := 0) (ns1 := 0) (n := 9) 14 dX3_init_7 w_ac_int hP hf0 (by decide) (by decide +kernel) (by decide) rfl (by omega) (by omega) ?_
  intro q0 M hP
  refine zh_putr (r := 8) (n := 12) (lNn (by omega) rfl) dX3_init_9 pf_X3_init_9 hP (qNn (by omega) hl0) ((kNn (by omega) hk0)) ⟨rfl, rfl⟩ rfl ?_
  intro M hP
  refine zs_return dX3_init_12 rfl (hQ _ ?_)
  exact ⟨q0, hP⟩
theorem h_X11_init {p : zPc} {a9 : Nat} (ha : Λ 1 = a9) (hP : zPic M0 Λ p M) (hl0 : p.1 1 = true) (hk0 : p.2.1 1 = 26) (hf0 : p.1 2 = false) (hf1 : p.1 15 = false) (hf2 : p.1 17 = false) (hf3 : p.1 3 = false) (hf4 : p.1 9 = false) (hf5 : p.1 10 = false) (hf6 : p.1 4 = false) (hf7 : p.1 11 = false) (hf8 : p.1 12 = false) (hf9 : p.1 13 = false) (hf10 : p.1 5 = false) (hf11 : p.1 6 = false) (hf12 : p.1 7 = false) (hf13 : p.1 19 = false) (hf14 : p.1 8 = false) (hf15 : p.1 14 = false) : zG Z l 4 mth_X11_init [.ref a9] M 16 400 none (fun M' => ∃ q0 q1 q2 q3 q4 q5 q6 q7 q8 q9 q10 q11 q12 q13 q14 q15, zPic M0 (u1 (u1 (u1 (u1 (u1 (u1 (u1 (u1 (u1 (u1 (u1 (u1 (u1 (u1 (u1 (u1 Λ 2 q0) 15 q1) 17 q2) 3 q3) 9 q4) 10 q5) 4 q6) 11 q7) 12 q8) 13 q9) 5 q10) 6 q11) 7 q12) 19 q13) 8 q14) 14 q15) (pSR (pSR (pNew (pNew (pSR (pSR (pSR (pSI (pNew (pSR (pSR (pSR (pNew (pSR (pSI (pNew (pSR (pSI (pNew (pSR (pSI (pSR (pNew (pSR (pNew (pSR (pNew (pNew (pSR (pSR (pNew (pSR (pNew (pNew (pSR (pSR (pSR (pSI (pNew (pSR (pSR (pSI (pNew (pNew p 2 22 0) 15 14 0) 15 128 0) 15 129 (some (zPe Z))) 2 384 (some q1)) 17 14 0) 17 128 0) 17 129 (some (zPe Z))) 2 385 (some q2)) 1 512 (some q0)) 3 16 0) 9 1 8) 3 192 (some q4)) 10 1 256) 3 193 (some q5)) 1 513 (some q3)) 4 20 0) 11 1 8) 4 320 (some q7)) 12 1 8) 4 321 (some q8)) 13 1 8) 4 322 (some q9)) 4 325 1) 1 514 (some q6)) 5 25 0) 5 481 (-1)) 1 515 (some q10)) 6 19 0) 6 288 99) 1 516 (some q11)) 7 17 0) 7 224 (some q0)) 7 225 (some q10)) 7 226 (some q11)) 19 14 0) 19 128 0) 19 129 (some (zPe Z))) 7 227 (some q13)) 1 517 (some q12)) 8 18 0) 14 1 10) 8 256 (some q15)) 1 518 (some q14)) M') := by
  intro Q hQ
  subst ha
  show zX Z l 4 mth_X11_init 0 [(0, .ref (Λ 1))] [] M 16 400 Q
  refine zs_aload_n (n := 1) dX11_init_0 rfl rfl ?_
  refine zs_objInit (n := 4) dX11_init_1 ml_X11_1 w_oi w_oc (by simp) rfl ?_
  refine zs_aload_n (n := 5) dX11_init_4 rfl rfl ?_
  refine zh_new (N := 2) (nc1 := 15) (ns1 := 398) (n := 8) 2 dX11_init_5 nc_X11_7 hP hf0 (by decide) rfl (by omega) (by omega) ?_
  intro q0 M hP
  refine zs_dup (n := 9) dX11_init_8 rfl rfl ?_
  refine zg_I (n := 12) (As := []) (mc := 2) (ms := 6) (nc1 := 13) (ns1 := 392) dX11_init_9 ok_X7_init ⟨ml_X11_9, im_X7_init, rfl, rfl⟩ rfl (Nat.le_of_ble_eq_true rfl) (by simp) (by omega) (by omega) (by omega) rfl rfl (h_X7_init lNa hP qNa (kNa) (qNn (by omega) hf1) (qNn (by omega) hf2)) ?_
  rintro M ⟨q1, q2, hP⟩
  refine zh_putr (r := 1) (n := 15) (lNn (by omega) (lNn (by omega) (lNn (by omega) rfl))) dX11_init_12 pf_X11_init_10 hP (qRn (qRn (qIn (qNn (by omega) (qRn (qRn (qIn (qNn (by omega) (qNn (by omega) hl0))))))))) ((kRn (kRn (kIn (kNn (by omega) (kRn (kRn (kIn (kNn (by omega) (kNn (by omega) hk0)))))))))) ⟨rfl, rfl⟩ rfl ?_
  intro M hP
  refine zs_aload_n (n := 16) dX11_init_15 rfl rfl ?_
  refine zh_new (N := 2) (nc1 := 12) (ns1 := 390) (n := 19) 3 dX11_init_16 nc_X11_16 hP (qRn (qRn (qRn (qIn (qNn (by omega) (qRn (qRn (qIn (qNn (by omega) (qNn (by omega) hf3)))))))))) (by decide) rfl (by omega) (by omega) ?_
  intro q3 M hP
  refine zs_dup (n := 20) dX11_init_19 rfl rfl ?_
  refine zg_I (n := 23) (As := []) (mc := 2) (ms := 264) (nc1 := 10) (ns1 := 126) dX11_init_20 ok_X1_init ⟨ml_X11_18, im_X1_init, rfl, rfl⟩ rfl (Nat.le_of_ble_eq_true rfl) (by simp) (by omega) (by omega) (by omega) rfl rfl (h_X1_init lNa hP qNa (kNa) (qNn (by omega) (qRn (qRn (qRn (qIn (qNn (by omega) (qRn (qRn (qIn (qNn (by omega) (qNn (by omega) hf4))))))))))) (qNn (by omega) (qRn (qRn (qRn (qIn (qNn (by omega) (qRn (qRn (qIn (qNn (by omega) (qNn (by omega) hf5)))))))))))) ?_
  rintro M ⟨q4, q5, hP⟩
  refine zh_putr (r := 1) (n := 26) (lNn (by omega) (lNn (by omega) (lNn (by omega) (lNn (by omega) (lNn (by omega) (lNn (by omega) rfl)))))) dX11_init_23 pf_X11_init_19 hP (qRn (qNn (by omega) (qRn (qNn (by omega) (qNn (by omega) (qRn (qRn (qRn (qIn (qNn (by omega) (qRn (qRn (qIn (qNn (by omega) (qNn (by omega) hl0))))))))))))))) ((kRn (kNn (by omega) (kRn (kNn (by omega) (kNn (by omega) (kRn (kRn (kRn (kIn (kNn (by omega) (kRn (kRn (kIn (kNn (by omega) (kNn (by omega) hk0)))))))))))))))) ⟨rfl, rfl⟩ rfl ?_
  intro M hP
  refine zs_aload_n (n := 27) dX11_init_26 rfl rfl ?_
  refine zh_new (N := 6) (nc1 := 9) (ns1 := 120) (n := 30) 4 dX11_init_27 nc_X11_23 hP (qRn (qRn (qNn (by omega) (qRn (qNn (by omega) (qNn (by omega) (qRn (qRn (qRn (qIn (qNn (by omega) (qRn (qRn (qIn (qNn (by omega) (qNn (by omega) hf6)))))))))))))))) (by decide) rfl (by omega) (by omega) ?_
  intro q6 M hP
  refine zs_dup (n := 31) dX11_init_30 rfl rfl ?_
  refine zg_I (n := 34) (As := []) (mc := 3) (ms := 24) (nc1 := 6) (ns1 := 96) dX11_init_31 ok_X5_init ⟨ml_X11_25, im_X5_init, rfl, rfl⟩ rfl (Nat.le_of_ble_eq_true rfl) (by simp) (by omega) (by omega) (by omega) rfl rfl (h_X5_init lNa hP qNa (kNa) (qNn (by omega) (qRn (qRn (qNn (by omega) (qRn (qNn (by omega) (qNn (by omega) (qRn (qRn (qRn (qIn (qNn (by omega) (qRn (qRn (qIn (qNn (by omega) (qNn (by omega) hf7))))))))))))))))) (qNn (by omega) (qRn (qRn (qNn (by omega) (qRn (qNn (by omega) (qNn (by omega) (qRn (qRn (qRn (qIn (qNn (by omega) (qRn (qRn (qIn (qNn (by omega) (qNn (by omega) hf8))))))))))))))))) (qNn (by omega) (qRn (qRn (qNn (by omega) (qRn (qNn (by omega) (qNn (by omega) (qRn (qRn (qRn (qIn (qNn (by omega) (qRn (qRn (qIn (qNn (by omega) (qNn (by omega) hf9)))))))))))))))))) ?_
  rintro M ⟨q7, q8, q9, hP⟩
  refine zh_putr (r := 1) (n := 37) (lNn (by omega) (lNn (by omega) (lNn (by omega) (lNn (by omega) (lNn (by omega) (lNn (by omega) (lNn (by omega) (lNn (by omega) (lNn (by omega) (lNn (by omega) rfl)))))))))) dX11_init_34 pf_X11_init_26 hP (qIn (qRn (qNn (by omega) (qRn (qNn (by omega) (qRn (qNn (by omega) (qNn (by omega) (qRn (qRn (qNn (by omega) (qRn (qNn (by omega) (qNn (by omega) (qRn (qRn (qRn (qIn (qNn (by omega) (qRn (qRn (qIn (qNn (by omega) (qNn (by omega) hl0)))))))))))))))))))))))) ((kIn (kRn (kNn (by omega) (kRn (kNn (by omega) (kRn (kNn (by omega) (kNn (by omega) (kRn (kRn (kNn (by omega) (kRn (kNn (by omega) (kNn (by omega) (kRn (kRn (kRn (kIn (kNn (by omega) (kRn (kRn (kIn (kNn (by omega) (kNn (by omega) hk0))))))))))))))))))))))))) ⟨rfl, rfl⟩ rfl ?_
  intro M hP
  refine zs_aload_n (n := 38) dX11_init_37 rfl rfl ?_
  refine zh_new (N := 3) (nc1 := 5) (ns1 := 93) (n := 41) 5 dX11_init_38 nc_X11_30 hP (qRn (qIn (qRn (qNn (by omega) (qRn (qNn (by omega) (qRn (qNn (by omega) (qNn (by omega) (qRn (qRn (qNn (by omega) (qRn (qNn (by omega) (qNn (by omega) (qRn (qRn (qRn (qIn (qNn (by omega) (qRn (qRn (qIn (qNn (by omega) (qNn (by omega) hf10))))))))))))))))))))))))) (by decide) rfl (by omega) (by omega) ?_
  intro q10 M hP
  refine zs_dup (n := 42) dX11_init_41 rfl rfl ?_
  refine zg_I (n := 45) (As := []) (mc := 0) (ms := 0) (nc1 := 5) (ns1 := 93) dX11_init_42 ok_X10_init ⟨ml_X11_32, im_X10_init, rfl, rfl⟩ rfl (Nat.le_of_ble_eq_true rfl) (by simp) (by omega) (by omega) (by omega) rfl rfl (h_X10_init lNa hP qNa (kNa) ) ?_
  rintro M hP
  refine zh_putr (r := 1) (n := 48) (lNn (by omega) (lNn (by omega) (lNn (by omega) (lNn (by omega) (lNn (by omega) (lNn (by omega) (lNn (by omega) (lNn (by omega) (lNn (by omega) (lNn (by omega) (lNn (by omega) rfl))))))))))) dX11_init_45 pf_X11_init_33 hP (qIn (qNn (by omega) (qRn (qIn (qRn (qNn (by omega) (qRn (qNn (by omega) (qRn (qNn (by omega) (qNn (by omega) (qRn (qRn (qNn (by omega) (qRn (qNn (by omega) (qNn (by omega) (qRn (qRn (qRn (qIn (qNn (by omega) (qRn (qRn (qIn (qNn (by omega) (qNn (by omega) hl0))))))))))))))))))))))))))) ((kIn (kNn (by omega) (kRn (kIn (kRn (kNn (by omega) (kRn (kNn (by omega) (kRn (kNn (by omega) (kNn (by omega) (kRn (kRn (kNn (by omega) (kRn (kNn (by omega) (kNn (by omega) (kRn (kRn (kRn (kIn (kNn (by omega) (kRn (kRn (kIn (kNn (by omega) (kNn (by omega) hk0)))))))))))))))))))))))))))) ⟨rfl, rfl⟩ rfl ?_
  intro M hP
  refine zs_aload_n (n := 49) dX11_init_48 rfl rfl ?_
  refine zh_new (N := 2) (nc1 := 4) (ns1 := 91) (n := 52) 6 dX11_init_49 nc_X11_37 hP (qRn (qIn (qNn (by omega) (qRn (qIn (qRn (qNn (by omega) (qRn (qNn (by omega) (qRn (qNn (by omega) (qNn (by omega) (qRn (qRn (qNn (by omega) (qRn (qNn (by omega) (qNn (by omega) (qRn (qRn (qRn (qIn (qNn (by omega) (qRn (qRn (qIn (qNn (by omega) (qNn (by omega) hf11)))))))))))))))))))))))))))) (by decide) rfl (by omega) (by omega) ?_
  intro q11 M hP
  refine zs_dup (n := 53) dX11_init_52 rfl rfl ?_
  refine zg_I (n := 56) (As := []) (mc := 0) (ms := 0) (nc1 := 4) (ns1 := 91) dX11_init_53 ok_X4_init ⟨ml_X11_39, im_X4_init, rfl, rfl⟩ rfl (Nat.le_of_ble_eq_true rfl) (by simp) (by omega) (by omega) (by omega) rfl rfl (h_X4_init lNa hP qNa (kNa) ) ?_
  rintro M hP
  refine zh_putr (r := 1) (n := 59) (lNn (by omega) (lNn (by omega) (lNn (by omega) (lNn (by omega) (lNn (by omega) (lNn (by omega) (lNn (by omega) (lNn (by omega) (lNn (by omega) (lNn (by omega) (lNn (by omega) (lNn (by omega) rfl)))))))))))) dX11_init_56 pf_X11_init_40 hP (qIn (qNn (by omega) (qRn (qIn (qNn (by omega) (qRn (qIn (qRn (qNn (by omega) (qRn (qNn (by omega) (qRn (qNn (by omega) (qNn (by omega) (qRn (qRn (qNn (by omega) (qRn (qNn (by omega) (qNn (by omega) (qRn (qRn (qRn (qIn (qNn (by omega) (qRn (qRn (qIn (qNn (by omega) (qNn (by omega) hl0)))))))))))))))))))))))))))))) ((kIn (kNn (by omega) (kRn (kIn (kNn (by omega) (kRn (kIn (kRn (kNn (by omega) (kRn (kNn (by omega) (kRn (kNn (by omega) (kNn (by omega) (kRn (kRn (kNn (by omega) (kRn (kNn (by omega) (kNn (by omega) (kRn (kRn (kRn (kIn (kNn (by omega) (kRn (kRn (kIn (kNn (by omega) (kNn (by omega) hk0))))))))))))))))))))))))))))))) ⟨rfl, rfl⟩ rfl ?_
  intro M hP
  refine zs_aload_n (n := 60) dX11_init_59 rfl rfl ?_
  refine zh_new (N := 9) (nc1 := 3) (ns1 := 82) (n := 63) 7 dX11_init_60 nc_X11_44 hP (qRn (qIn (qNn (by omega) (qRn (qIn (qNn (by omega) (qRn (qIn (qRn (qNn (by omega) (qRn (qNn (by omega) (qRn (qNn (by omega) (qNn (by omega) (qRn (qRn (qNn (by omega) (qRn (qNn (by omega) (qNn (by omega) (qRn (qRn (qRn (qIn (qNn (by omega) (qRn (qRn (qIn (qNn (by omega) (qNn (by omega) hf12))))))))))))))))))))))))))))))) (by decide) rfl (by omega) (by omega) ?_
  intro q12 M hP
  refine zs_dup (n := 64) dX11_init_63 rfl rfl ?_
  refine zs_aload_n (n := 65) dX11_init_64 rfl rfl ?_
  refine zh_getr (r := 1) (b := q0) (n := 68) (lNn (by omega) (lNn (by omega) (lNn (by omega) (lNn (by omega) (lNn (by omega) (lNn (by omega) (lNn (by omega) (lNn (by omega) (lNn (by omega) (lNn (by omega) (lNn (by omega) (lNn (by omega) (lNn (by omega) rfl))))))))))))) dX11_init_65 gf_X11_10 hP (qNn (by omega) (qRn (qIn (qNn (by omega) (qRn (qIn (qNn (by omega) (qRn (qIn (qRn (qNn (by omega) (qRn (qNn (by omega) (qRn (qNn (by omega) (qNn (by omega) (qRn (qRn (qNn (by omega) (qRn (qNn (by omega) (qNn (by omega) (qRn (qRn (qRn (qIn (qNn (by omega) (qRn (qRn (qIn (qNn (by omega) (qNn (by omega) hl0)))))))))))))))))))))))))))))))) ((kNn (by omega) (kRn (kIn (kNn (by omega) (kRn (kIn (kNn (by omega) (kRn (kIn (kRn (kNn (by omega) (kRn (kNn (by omega) (kRn (kNn (by omega) (kNn (by omega) (kRn (kRn (kNn (by omega) (kRn (kNn (by omega) (kNn (by omega) (kRn (kRn (kRn (kIn (kNn (by omega) (kRn (kRn (kIn (kNn (by omega) (kNn (by omega) hk0))))))))))))))))))))))))))))))))) (rNn (by omega) (rRk (by decide) (rIn (rNn (by omega) (rRk (by decide) (rIn (rNn (by omega) (rRk (by decide) (rIn (rRk (by decide) (rNn (by omega) (rRk (by decide) (rNn (by omega) (rRk (by decide) (rNn (by omega) (rNn (by omega) (rRk (by decide) (rRk (by decide) (rNn (by omega) (rRk (by decide) (rNn (by omega) (rNn (by omega) rRa)))))))))))))))))))))) rfl ?_
  refine zs_aload_n (n := 69) dX11_init_68 rfl rfl ?_
  refine zh_getr (r := 1) (b := q10) (n := 72) (lNn (by omega) (lNn (by omega) (lNn (by omega) (lNn (by omega) (lNn (by omega) (lNn (by omega) (lNn (by omega) (lNn (by omega) (lNn (by omega) (lNn (by omega) (lNn (by omega) (lNn (by omega) (lNn (by omega) rfl))))))))))))) dX11_init_69 gf_X11_33 hP (qNn (by omega) (qRn (qIn (qNn (by omega) (qRn (qIn (qNn (by omega) (qRn (qIn (qRn (qNn (by omega) (qRn (qNn (by omega) (qRn (qNn (by omega) (qNn (by omega) (qRn (qRn (qNn (by omega) (qRn (qNn (by omega) (qNn (by omega) (qRn (qRn (qRn (qIn (qNn (by omega) (qRn (qRn (qIn (qNn (by omega) (qNn (by omega) hl0)))))))))))))))))))))))))))))))) ((kNn (by omega) (kRn (kIn (kNn (by omega) (kRn (kIn (kNn (by omega) (kRn (kIn (kRn (kNn (by omega) (kRn (kNn (by omega) (kRn (kNn (by omega) (kNn (by omega) (kRn (kRn (kNn (by omega) (kRn (kNn (by omega) (kNn (by omega) (kRn (kRn (kRn (kIn (kNn (by omega) (kRn (kRn (kIn (kNn (by omega) (kNn (by omega) hk0))))))))))))))))))))))))))))))))) (rNn (by omega) (rRk (by decide) (rIn (rNn (by omega) rRa)))) rfl ?_
  refine zs_aload_n (n := 73) dX11_init_72 rfl rfl ?_
  refine zh_getr (r := 1) (b := q11) (n := 76) (lNn (by omega) (lNn (by omega) (lNn (by omega) (lNn (by omega) (lNn (by omega) (lNn (by omega) (lNn (by omega) (lNn (by omega) (lNn (by omega) (lNn (by omega) (lNn (by omega) (lNn (by omega) (lNn (by omega) rfl))))))))))))) dX11_init_73 gf_X11_40 hP (qNn (by omega) (qRn (qIn (qNn (by omega) (qRn (qIn (qNn (by omega) (qRn (qIn (qRn (qNn (by omega) (qRn (qNn (by omega) (qRn (qNn (by omega) (qNn (by omega) (qRn (qRn (qNn (by omega) (qRn (qNn (by omega) (qNn (by omega) (qRn (qRn (qRn (qIn (qNn (by omega) (qRn (qRn (qIn (qNn (by omega) (qNn (by omega) hl0)))))))))))))))))))))))))))))))) ((kNn (by omega) (kRn (kIn (kNn (by omega) (kRn (kIn (kNn (by omega) (kRn (kIn (kRn (kNn (by omega) (kRn (kNn (by omega) (kRn (kNn (by omega) (kNn (by omega) (kRn (kRn (kNn (by omega) (kRn (kNn (by omega) (kNn (by omega) (kRn (kRn (kRn (kIn (kNn (by omega) (kRn (kRn (kIn (kNn (by omega) (kNn (by omega) hk0))))))))))))))))))))))))))))))))) (rNn (by omega) rRa) rfl ?_
  refine zg_I (n := 79) (As := [.ref q0, .ref q10, .ref q11]) (mc := 1) (ms := 3) (nc1 := 2) (ns1 := 79) dX11_init_76 ok_X2_init ⟨ml_X11_46, im_X2_init, rfl, rfl⟩ rfl (Nat.le_of_ble_eq_true rfl) (by simp) (by omega) (by omega) (by omega) rfl rfl (h_X2_init lNa hP qNa (kNa) (qNn (by omega) (qRn (qIn (qNn (by omega) (qRn (qIn (qNn (by omega) (qRn (qIn (qRn (qNn (by omega) (qRn (qNn (by omega) (qRn (qNn (by omega) (qNn (by omega) (qRn (qRn (qNn (by omega) (qRn (qNn (by omega) (qNn (by omega) (qRn (qRn (qRn (qIn (qNn (by omega) (qRn (qRn (qIn (qNn (by omega) (qNn (by omega) hf13))))))))))))))))))))))))))))))))) ?_
  rintro M ⟨q13, hP⟩
  refine zh_putr (r := 1) (n := 82) (lNn (by omega) (lNn (by omega) (lNn (by omega) (lNn (by omega) (lNn (by omega) (lNn (by omega) (lNn (by omega) (lNn (by omega) (lNn (by omega) (lNn (by omega) (lNn (by omega) (lNn (by omega) (lNn (by omega) (lNn (by omega) rfl)))))))))))))) dX11_init_79 pf_X11_init_49 hP (qRn (qRn (qIn (qNn (by omega) (qRn (qRn (qRn (qNn (by omega) (qRn (qIn (qNn (by omega) (qRn (qIn (qNn (by omega) (qRn (qIn (qRn (qNn (by omega) (qRn (qNn (by omega) (qRn (qNn (by omega) (qNn (by omega) (qRn (qRn (qNn (by omega) (qRn (qNn (by omega) (qNn (by omega) (qRn (qRn (qRn (qIn (qNn (by omega) (qRn (qRn (qIn (qNn (by omega) (qNn (by omega) hl0))))))))))))))))))))))))))))))))))))))) ((kRn (kRn (kIn (kNn (by omega) (kRn (kRn (kRn (kNn (by omega) (kRn (kIn (kNn (by omega) (kRn (kIn (kNn (by omega) (kRn (kIn (kRn (kNn (by omega) (kRn (kNn (by omega) (kRn (kNn (by omega) (kNn (by omega) (kRn (kRn (kNn (by omega) (kRn (kNn (by omega) (kNn (by omega) (kRn (kRn (kRn (kIn (kNn (by omega) (kRn (kRn (kIn (kNn (by omega) (kNn (by omega) hk0)))))))))))))))))))))))))))))))))))))))) ⟨rfl, rfl⟩ rfl ?_
  intro M hP
  refine zs_aload_n (n := 83) dX11_init_82 rfl rfl ?_
  refine zh_new (N := 2) (nc1 := 1) (ns1 := 77) (n := 86) 8 dX11_init_83 nc_X11_53 hP (qRn (qRn (qRn (qIn (qNn (by omega) (qRn (qRn (qRn (qNn (by omega) (qRn (qIn (qNn (by omega) (qRn (qIn (qNn (by omega) (qRn (qIn (qRn (qNn (by omega) (qRn (qNn (by omega) (qRn (qNn (by omega) (qNn (by omega) (qRn (qRn (qNn (by omega) (qRn (qNn (by omega) (qNn (by omega) (qRn (qRn (qRn (qIn (qNn (by omega) (qRn (qRn (qIn (qNn (by omega) (qNn (by omega) hf14)))))))))))))))))))))))))))))))))))))))) (by decide) rfl (by omega) (by omega) ?_
  intro q14 M hP
  refine zs_dup (n := 87) dX11_init_86 rfl rfl ?_
  refine zg_I (n := 90) (As := []) (mc := 1) (ms := 10) (nc1 := 0) (ns1 := 67) dX11_init_87 ok_X3_init ⟨ml_X11_55, im_X3_init, rfl, rfl⟩ rfl (Nat.le_of_ble_eq_true rfl) (by simp) (by omega) (by omega) (by omega) rfl rfl (h_X3_init lNa hP qNa (kNa) (qNn (by omega) (qRn (qRn (qRn (qIn (qNn (by omega) (qRn (qRn (qRn (qNn (by omega) (qRn (qIn (qNn (by omega) (qRn (qIn (qNn (by omega) (qRn (qIn (qRn (qNn (by omega) (qRn (qNn (by omega) (qRn (qNn (by omega) (qNn (by omega) (qRn (qRn (qNn (by omega) (qRn (qNn (by omega) (qNn (by omega) (qRn (qRn (qRn (qIn (qNn (by omega) (qRn (qRn (qIn (qNn (by omega) (qNn (by omega) hf15)))))))))))))))))))))))))))))))))))))))))) ?_
  rintro M ⟨q15, hP⟩
  refine zh_putr (r := 1) (n := 93) (lNn (by omega) (lNn (by omega) (lNn (by omega) (lNn (by omega) (lNn (by omega) (lNn (by omega) (lNn (by omega) (lNn (by omega) (lNn (by omega) (lNn (by omega) (lNn (by omega) (lNn (by omega) (lNn (by omega) (lNn (by omega) (lNn (by omega) (lNn (by omega) rfl)))))))))))))))) dX11_init_90 pf_X11_init_56 hP (qRn (qNn (by omega) (qNn (by omega) (qRn (qRn (qRn (qIn (qNn (by omega) (qRn (qRn (qRn (qNn (by omega) (qRn (qIn (qNn (by omega) (qRn (qIn (qNn (by omega) (qRn (qIn (qRn (qNn (by omega) (qRn (qNn (by omega) (qRn (qNn (by omega) (qNn (by omega) (qRn (qRn (qNn (by omega) (qRn (qNn (by omega) (qNn (by omega) (qRn (qRn (qRn (qIn (qNn (by omega) (qRn (qRn (qIn (qNn (by omega) (qNn (by omega) hl0))))))))))))))))))))))))))))))))))))))))))) ((kRn (kNn (by omega) (kNn (by omega) (kRn (kRn (kRn (kIn (kNn (by omega) (kRn (kRn (kRn (kNn (by omega) (kRn (kIn (kNn (by omega) (kRn (kIn (kNn (by omega) (kRn (kIn (kRn (kNn (by omega) (kRn (kNn (by omega) (kRn (kNn (by omega) (kNn (by omega) (kRn (kRn (kNn (by omega) (kRn (kNn (by omega) (kNn (by omega) (kRn (kRn (kRn (kIn (kNn (by omega) (kRn (kRn (kIn (kNn (by omega) (kNn (by omega) hk0)))))))))))))))))))))))))))))))))))))))))))) ⟨rfl, rfl⟩ rfl ?_
  intro M hP
  refine zs_return dX11_init_93 rfl (hQ _ ?_)
  exact ⟨q0, q1, q2, q3, q4, q5, q6, q7, q8, q9, q10, q11, q12, q13, q14, q15, hP⟩
theorem h_X6_init {p : zPc} {a9 : Nat} {a0 : Int32} {a1 : Int32} {a2 : Int32} {r0 r1 r2 : Nat} (ha : Λ r0 = a9) (hP : zPic M0 Λ p M) (hl0 : p.1 r0 = true) (hk0 : p.2.1 r0 = 21) (hf0 : p.1 r1 = false) (hf1 : p.1 r2 = false) (n1 : r0 ≠ r1) (n2 : r0 ≠ r2) (n3 : r1 ≠ r2) (hs : narrow .boolean (.int a2) = .int a2 ∧ fits .boolean (.int a2) = true) : zG Z l 3 mth_X6_init [.ref a9, .int a0, .int a1, .int a2] M 2 13 none (fun M' => ∃ q0 q1, zPic M0 (u1 (u1 Λ r1 q0) r2 q1) (pSR (pSR (pSI (pNew (pSR (pNew (pSI (pSI (pSI p r0 352 a0) r0 353 a1) r0 354 a2) r1 1 10) r0 355 (some q0)) r2 14 0) r2 128 0) r2 129 (some (zPe Z))) r0 356 (some q1)) M') := by
  intro Q hQ
  subst ha
  show zX Z l 3 mth_X6_init 0 [(0, .ref (Λ r0)), (1, .int a0), (2, .int a1), (3, .int a2)] [] M 2 13 Q
  refine zs_aload_n (n := 1) dX6_init_0 rfl rfl ?_
  refine zs_objInit (n := 4) dX6_init_1 ml_X6_3 w_oi w_oc (by simp) rfl ?_
  refine zs_aload_n (n := 5) dX6_init_4 rfl rfl ?_
  refine zs_iload_n (n := 6) dX6_init_5 rfl rfl ?_
  refine zh_puti (r := r0) (n := 9) rfl dX6_init_6 pf_X6_init_9 hP hl0 (hk0) ⟨rfl, rfl⟩ rfl ?_
  intro M hP
  refine zs_aload_n (n := 10) dX6_init_9 rfl rfl ?_
  refine zs_iload_n (n := 11) dX6_init_10 rfl rfl ?_
  refine zh_puti (r := r0) (n := 14) rfl dX6_init_11 pf_X6_init_15 hP (qIn hl0) ((kIn hk0)) ⟨rfl, rfl⟩ rfl ?_
  intro M hP
  refine zs_aload_n (n := 15) dX6_init_14 rfl rfl ?_
  refine zs_iload_n (n := 16) dX6_init_15 rfl rfl ?_
  refine zh_puti (r := r0) (n := 19) rfl dX6_init_16 pf_X6_init_18 hP (qIn (qIn hl0)) ((kIn (kIn hk0))) hs rfl ?_
  intro M hP
  refine zs_aload_n (n := 20) dX6_init_19 rfl rfl ?_
  refine zs_bipush (v := 10) (n := 22) dX6_init_20 (by decide) rfl ?_
  refine zh_newI (N := 10) (nc1 := 1) (ns1 := 3) (n := 24) r1 dX6_init_22 w_ac_int hP (qIn (qIn (qIn hf0))) (by decide) (by decide +kernel) (by decide) rfl (by omega) (by omega) ?_
  intro q0 M hP
  refine zh_putr (r := r0) (n := 27) (lNn (by omega) rfl) dX6_init_24 pf_X6_init_22 hP (qNn (by omega) (qIn (qIn (qIn hl0)))) ((kNn (by omega) (kIn (kIn (kIn hk0))))) ⟨rfl, rfl⟩ rfl ?_
  intro M hP
  refine zs_aload_n (n := 28) dX6_init_27 rfl rfl ?_
  refine zh_new (N := 3) (nc1 := 0) (ns1 := 0) (n := 31) r2 dX6_init_28 nc_X6_26 hP (qRn (qNn (by omega) (qIn (qIn (qIn hf1))))) (by decide) rfl (by omega) (by omega) ?_
  intro q1 M hP
  refine zs_dup (n := 32) dX6_init_31 rfl rfl ?_
  refine zh_linit (r := r2) (n := 35) lNa dX6_init_32 ml_X6_28 hP qNa (kNa) (by simp) (by omega) rfl ?_
  intro M hP
  refine zh_putr (r := r0) (n := 38) (lNn (by omega) (lNn (by omega) rfl)) dX6_init_35 pf_X6_init_29 hP (qRn (qIn (qNn (by omega) (qRn (qNn (by omega) (qIn (qIn (qIn hl0)))))))) ((kRn (kIn (kNn (by omega) (kRn (kNn (by omega) (kIn (kIn (kIn hk0))))))))) ⟨rfl, rfl⟩ rfl ?_
  intro M hP
  refine zs_return dX6_init_38 rfl (hQ _ ?_)
  exact ⟨q0, q1, hP⟩
theorem h_X13_init {p : zPc} {a9 : Nat} {a0 : Int32} {a1 : Int32} {a2 : Int32} {r0 r1 r2 : Nat} (ha : Λ r0 = a9) (hP : zPic M0 Λ p M) (hl0 : p.1 r0 = true) (hk0 : p.2.1 r0 = 28) (hf0 : p.1 r1 = false) (hf1 : p.1 r2 = false) (n1 : r0 ≠ r1) (n2 : r0 ≠ r2) (n3 : r1 ≠ r2) (hs : narrow .boolean (.int a2) = .int a2 ∧ fits .boolean (.int a2) = true) : zG Z l 3 mth_X13_init [.ref a9, .int a0, .int a1, .int a2] M 2 13 none (fun M' => ∃ q0 q1, zPic M0 (u1 (u1 Λ r1 q0) r2 q1) (pSI (pSI (pSI (pSR (pSR (pSI (pNew (pSR (pNew p r1 1 10) r0 579 (some q0)) r2 14 0) r2 128 0) r2 129 (some (zPe Z))) r0 580 (some q1)) r0 576 a0) r0 577 a1) r0 578 a2) M') := by
  intro Q hQ
  subst ha
  show zX Z l 3 mth_X13_init 0 [(0, .ref (Λ r0)), (1, .int a0), (2, .int a1), (3, .int a2)] [] M 2 13 Q
  refine zs_aload_n (n := 1) dX13_init_0 rfl rfl ?_
  refine zs_objInit (n := 4) dX13_init_1 ml_X13_3 w_oi w_oc (by simp) rfl ?_
  refine zs_aload_n (n := 5) dX13_init_4 rfl rfl ?_
  refine zs_bipush (v := 10) (n := 7) dX13_init_5 (by decide) rfl ?_
  refine zh_newI (N := 10) (nc1 := 1) (ns1 := 3) (n := 9) r1 dX13_init_7 w_ac_int hP hf0 (by decide) (by decide +kernel) (by decide) rfl (by omega) (by omega) ?_
  intro q0 M hP
  refine zh_putr (r := r0) (n := 12) (lNn (by omega) rfl) dX13_init_9 pf_X13_init_9 hP (qNn (by omega) hl0) ((kNn (by omega) hk0)) ⟨rfl, rfl⟩ rfl ?_
  intro M hP
  refine zs_aload_n (n := 13) dX13_init_12 rfl rfl ?_
  refine zh_new (N := 3) (nc1 := 0) (ns1 := 0) (n := 16) r2 dX13_init_13 nc_X13_15 hP (qRn (qNn (by omega) hf1)) (by decide) rfl (by omega) (by omega) ?_
  intro q1 M hP
  refine zs_dup (n := 17) dX13_init_16 rfl rfl ?_
  refine zh_linit (r := r2) (n := 20) lNa dX13_init_17 ml_X13_17 hP qNa (kNa) (by simp) (by omega) rfl ?_
  intro M hP
  refine zh_putr (r := r0) (n := 23) (lNn (by omega) (lNn (by omega) rfl)) dX13_init_20 pf_X13_init_18 hP (qRn (qIn (qNn (by omega) (qRn (qNn (by omega) hl0))))) ((kRn (kIn (kNn (by omega) (kRn (kNn (by omega) hk0)))))) ⟨rfl, rfl⟩ rfl ?_
  intro M hP
  refine zs_aload_n (n := 24) dX13_init_23 rfl rfl ?_
  refine zs_iload_n (n := 25) dX13_init_24 rfl rfl ?_
  refine zh_puti (r := r0) (n := 28) (lNn (by omega) (lNn (by omega) rfl)) dX13_init_25 pf_X13_init_22 hP (qRn (qRn (qIn (qNn (by omega) (qRn (qNn (by omega) hl0)))))) ((kRn (kRn (kIn (kNn (by omega) (kRn (kNn (by omega) hk0))))))) ⟨rfl, rfl⟩ rfl ?_
  intro M hP
  refine zs_aload_n (n := 29) dX13_init_28 rfl rfl ?_
  refine zs_iload_n (n := 30) dX13_init_29 rfl rfl ?_
  refine zh_puti (r := r0) (n := 33) (lNn (by omega) (lNn (by omega) rfl)) dX13_init_30 pf_X13_init_26 hP (qIn (qRn (qRn (qIn (qNn (by omega) (qRn (qNn (by omega) hl0))))))) ((kIn (kRn (kRn (kIn (kNn (by omega) (kRn (kNn (by omega) hk0)))))))) ⟨rfl, rfl⟩ rfl ?_
  intro M hP
  refine zs_aload_n (n := 34) dX13_init_33 rfl rfl ?_
  refine zs_iload_n (n := 35) dX13_init_34 rfl rfl ?_
  refine zh_puti (r := r0) (n := 38) (lNn (by omega) (lNn (by omega) rfl)) dX13_init_35 pf_X13_init_29 hP (qIn (qIn (qRn (qRn (qIn (qNn (by omega) (qRn (qNn (by omega) hl0)))))))) ((kIn (kIn (kRn (kRn (kIn (kNn (by omega) (kRn (kNn (by omega) hk0))))))))) hs rfl ?_
  intro M hP
  refine zs_return dX13_init_38 rfl (hQ _ ?_)
  exact ⟨q0, q1, hP⟩
theorem h_X12_init {p : zPc} {a9 : Nat} {a0 : Int32} {a1 : Int32} {a2 : Int32} {a3 : Int32} {a4 : Int32} {a5 : Int32} {r0 : Nat} (ha : Λ r0 = a9) (hP : zPic M0 Λ p M) (hl0 : p.1 r0 = true) (hk0 : p.2.1 r0 = 27)  (hs : narrow .boolean (.int a4) = .int a4 ∧ fits .boolean (.int a4) = true) : zG Z l 3 mth_X12_init [.ref a9, .int a0, .int a1, .int a2, .int a3, .int a4, .int a5] M 0 0 none (fun M' => zPic M0 Λ (pSI (pSI (pSI (pSI (pSI (pSI p r0 544 a0) r0 545 a1) r0 546 a2) r0 547 a3) r0 548 a4) r0 551 a5) M') := by
  intro Q hQ
  subst ha
  show zX Z l 3 mth_X12_init 0 [(0, .ref (Λ r0)), (1, .int a0), (2, .int a1), (3, .int a2), (4, .int a3), (5, .int a4), (6, .int a5)] [] M 0 0 Q
  refine zs_aload_n (n := 1) dX12_init_0 rfl rfl ?_
  refine zs_objInit (n := 4) dX12_init_1 ml_X12_1 w_oi w_oc (by simp) rfl ?_
  refine zs_aload_n (n := 5) dX12_init_4 rfl rfl ?_
  refine zs_iload_n (n := 6) dX12_init_5 rfl rfl ?_
  refine zh_puti (r := r0) (n := 9) rfl dX12_init_6 pf_X12_init_7 hP hl0 (hk0) ⟨rfl, rfl⟩ rfl ?_
  intro M hP
  refine zs_aload_n (n := 10) dX12_init_9 rfl rfl ?_
  refine zs_iload_n (n := 11) dX12_init_10 rfl rfl ?_
  refine zh_puti (r := r0) (n := 14) rfl dX12_init_11 pf_X12_init_13 hP (qIn hl0) ((kIn hk0)) ⟨rfl, rfl⟩ rfl ?_
  intro M hP
  refine zs_aload_n (n := 15) dX12_init_14 rfl rfl ?_
  refine zs_iload_n (n := 16) dX12_init_15 rfl rfl ?_
  refine zh_puti (r := r0) (n := 19) rfl dX12_init_16 pf_X12_init_16 hP (qIn (qIn hl0)) ((kIn (kIn hk0))) ⟨rfl, rfl⟩ rfl ?_
  intro M hP
  refine zs_aload_n (n := 20) dX12_init_19 rfl rfl ?_
  refine zs_iload (n := 22) dX12_init_20 rfl rfl ?_
  refine zh_puti (r := r0) (n := 25) rfl dX12_init_22 pf_X12_init_19 hP (qIn (qIn (qIn hl0))) ((kIn (kIn (kIn hk0)))) ⟨rfl, rfl⟩ rfl ?_
  intro M hP
  refine zs_aload_n (n := 26) dX12_init_25 rfl rfl ?_
  refine zs_iload (n := 28) dX12_init_26 rfl rfl ?_
  refine zh_puti (r := r0) (n := 31) rfl dX12_init_28 pf_X12_init_22 hP (qIn (qIn (qIn (qIn hl0)))) ((kIn (kIn (kIn (kIn hk0))))) hs rfl ?_
  intro M hP
  refine zs_aload_n (n := 32) dX12_init_31 rfl rfl ?_
  refine zs_iload (n := 34) dX12_init_32 rfl rfl ?_
  refine zh_puti (r := r0) (n := 37) rfl dX12_init_34 pf_X12_init_26 hP (qIn (qIn (qIn (qIn (qIn hl0))))) ((kIn (kIn (kIn (kIn (kIn hk0)))))) ⟨rfl, rfl⟩ rfl ?_
  intro M hP
  refine zs_return dX12_init_37 rfl (hQ _ ?_)
  exact hP
theorem h_X14_init {p : zPc} {a9 : Nat} {a0 : Int32} {r0 : Nat} (ha : Λ r0 = a9) (hP : zPic M0 Λ p M) (hl0 : p.1 r0 = true) (hk0 : p.2.1 r0 = 29)  : zG Z l 3 mth_X14_init [.ref a9, .int a0] M 0 0 none (fun M' => zPic M0 Λ (pSI (pSI p r0 609 (-1)) r0 608 a0) M') := by
  intro Q hQ
  subst ha
  show zX Z l 3 mth_X14_init 0 [(0, .ref (Λ r0)), (1, .int a0)] [] M 0 0 Q
  refine zs_aload_n (n := 1) dX14_init_0 rfl rfl ?_
  refine zs_objInit (n := 4) dX14_init_1 ml_X14_3 w_oi w_oc (by simp) rfl ?_
  refine zs_aload_n (n := 5) dX14_init_4 rfl rfl ?_
  refine zs_iconst (v := -1) (n := 6) dX14_init_5 (by decide) rfl ?_
  refine zh_puti (r := r0) (n := 9) rfl dX14_init_6 pf_X14_init_9 hP hl0 (hk0) ⟨rfl, rfl⟩ rfl ?_
  intro M hP
  refine zs_aload_n (n := 10) dX14_init_9 rfl rfl ?_
  refine zs_iload_n (n := 11) dX14_init_10 rfl rfl ?_
  refine zh_puti (r := r0) (n := 14) rfl dX14_init_11 pf_X14_init_15 hP (qIn hl0) ((kIn hk0)) ⟨rfl, rfl⟩ rfl ?_
  intro M hP
  refine zs_return dX14_init_14 rfl (hQ _ ?_)
  exact hP
theorem h_X15_init {p : zPc} {a9 : Nat} {a0 : Int32} {a1 : Int32} {r0 : Nat} (ha : Λ r0 = a9) (hP : zPic M0 Λ p M) (hl0 : p.1 r0 = true) (hk0 : p.2.1 r0 = 30)  : zG Z l 3 mth_X15_init [.ref a9, .int a0, .int a1] M 0 0 none (fun M' => zPic M0 Λ (pSI (pSI (pSI p r0 642 45) r0 640 a0) r0 641 a1) M') := by
  intro Q hQ
  subst ha
  show zX Z l 3 mth_X15_init 0 [(0, .ref (Λ r0)), (1, .int a0), (2, .int a1)] [] M 0 0 Q
  refine zs_aload_n (n := 1) dX15_init_0 rfl rfl ?_
  refine zs_objInit (n := 4) dX15_init_1 ml_X15_1 w_oi w_oc (by simp) rfl ?_
  refine zs_aload_n (n := 5) dX15_init_4 rfl rfl ?_
  refine zs_bipush (v := 45) (n := 7) dX15_init_5 (by decide) rfl ?_
  refine zh_puti (r := r0) (n := 10) rfl dX15_init_7 pf_X15_init_7 hP hl0 (hk0) ⟨rfl, rfl⟩ rfl ?_
  intro M hP
  refine zs_aload_n (n := 11) dX15_init_10 rfl rfl ?_
  refine zs_iload_n (n := 12) dX15_init_11 rfl rfl ?_
  refine zh_puti (r := r0) (n := 15) rfl dX15_init_12 pf_X15_init_13 hP (qIn hl0) ((kIn hk0)) ⟨rfl, rfl⟩ rfl ?_
  intro M hP
  refine zs_aload_n (n := 16) dX15_init_15 rfl rfl ?_
  refine zs_iload_n (n := 17) dX15_init_16 rfl rfl ?_
  refine zh_puti (r := r0) (n := 20) rfl dX15_init_17 pf_X15_init_17 hP (qIn (qIn hl0)) ((kIn (kIn hk0))) ⟨rfl, rfl⟩ rfl ?_
  intro M hP
  refine zs_return dX15_init_20 rfl (hQ _ ?_)
  exact hP
end ZCTOR
