/-! THE MODEL: what was played -/
section ZMOD9
variable {Z : zPar} {l : Launch} {Λ : Nat → Nat} {S : zSt} {M M0 : zMem} {d d' : Nat} {mm : zMeth} {pc n nc ns ix nc1 ns1 : Nat} {L : List (Nat × Value)} {st : List Value} {Q : zO → zMem → Prop}
theorem k_played_1 {p q b : Int32} (hR : zRp Z Λ S M) (h4 : sc S 4 = 1) (hx9 : ¬ (¬ p < 0 ∧ ¬ nI (sc S 1000) ≤ p)) : zG Z l 3 mth_X16_played [.ref (Λ 1001), .int p, .int q, .int b] M 0 0 (some .null) ((zRp Z Λ (mT S 1))) := by
  intro Q hQ
  have hb1 : sc S 1000 ≤ 6 := hR.bnd.2.1.1
  show zX Z l 3 mth_X16_played 0 [(0, .ref (Λ 1001)), (1, .int p), (2, .int q), (3, .int b)] [] M 0 0 Q
  refine zs_aload_n (n := 1) dX16_played_0 rfl rfl ?_
  refine zs_iload_n (n := 2) dX16_played_1 rfl rfl ?_
  refine zc_V (n := 5) (As := [.int p]) (ci := 21) (mc := 0) (ms := 0) dX16_played_2 ok_X16_isPitch ⟨ml_X16_84, im_X16_isPitch, sl_X16_isPitch⟩ rfl (hR.kd (lvM h4 (by omega))) rfl (Nat.le_of_ble_eq_true rfl) (by simp) (by omega) (Nat.le_refl _) (Nat.le_refl _) rfl rfl (k_isPitch hR h4) ?_
  refine zs_if_ne (tgt := 15) (n := 8) dX16_played_5 (by decide) rfl (fun h => absurd (zb0.mpr (fIn_no (by omega) hx9)) h) (fun _ => ?_)
  refine zs_aload_n (n := 9) dX16_played_8 rfl rfl ?_
  refine zs_iconst (v := 1) (n := 10) dX16_played_9 (by decide) rfl ?_
  refine zw_i (r := 1001) (n := 13) dX16_played_10 pf_X16_played_43 hR (lvM h4 (by omega)) (hR.kd (lvM h4 (by omega))) ⟨rfl, rfl⟩ (by decide) rfl ?_
  intro M hR hv
  refine zs_null (n := 14) dX16_played_13 rfl ?_
  refine zs_areturnN dX16_played_14 ⟨_, rfl, Or.inl ⟨_, rfl⟩⟩ ?_
  exact hQ _ hR
theorem k_played_2o {i : Nat} {q b : Int32} (hR : zRp Z Λ S M) (h4 : sc S 4 = 1) (hi : i < sc S 1000) (hx8 : ¬ (¬ q < 0 ∧ ¬ nI (sc S (1010 + i)) ≤ q)) (hb0 : b = 0) : zG Z l 3 mth_X16_played [.ref (Λ 1001), .int (nI i), .int q, .int b] M 0 0 (some .null) ((zRp Z Λ (mT S 2))) := by
  intro Q hQ
  have hb1 : sc S 1000 ≤ 6 := hR.bnd.2.1.1
  have hb3 := hR.bnd.2.2 i
  show zX Z l 3 mth_X16_played 0 [(0, .ref (Λ 1001)), (1, .int (nI i)), (2, .int q), (3, .int b)] [] M 0 0 Q
  refine zs_aload_n (n := 1) dX16_played_0 rfl rfl ?_
  refine zs_iload_n (n := 2) dX16_played_1 rfl rfl ?_
  refine zc_V (n := 5) (As := [.int (nI i)]) (ci := 21) (mc := 0) (ms := 0) dX16_played_2 ok_X16_isPitch ⟨ml_X16_84, im_X16_isPitch, sl_X16_isPitch⟩ rfl (hR.kd (lvM h4 (by omega))) rfl (Nat.le_of_ble_eq_true rfl) (by simp) (by omega) (Nat.le_refl _) (Nat.le_refl _) rfl rfl (k_isPitch hR h4) ?_
  refine zs_if_ne (tgt := 15) (n := 8) dX16_played_5 (by decide) rfl (fun _ => ?_) (fun h => absurd h (zb1.mpr (fIn_ix hi (by omega))))
  refine zs_iload_n (n := 16) dX16_played_15 rfl rfl ?_
  refine zs_i2l (n := 17) dX16_played_16 rfl ?_
  refine zs_lconst (v := 0) (n := 18) dX16_played_17 (by decide) rfl ?_
  refine zs_aload_n (n := 19) dX16_played_18 rfl rfl ?_
  refine zs_getr (b := (Λ 1015)) (n := 22) dX16_played_19 gf_X16_10 (hR.kd (lvM h4 (by omega))) (hR.pt (lvM h4 (by omega)) rfl (by decide)) rfl ?_
  refine zs_iload_n (n := 23) dX16_played_22 rfl rfl ?_
  refine zc_getb (c := sc S 1000) (b := (Λ (1100 + i))) (n := 26) dX16_played_23 ml_X16_94 (hR.lP' h4) hi rfl (by simp) (by omega) rfl ?_
  refine zs_castS (ci := 18) (n := 29) dX16_played_26 rfl cl_X16_68 (hR.kP' hi) rfl ?_
  refine zs_getr (b := (Λ (1120 + i))) (n := 32) dX16_played_29 gf_X16_164 (hR.kP' hi) (hR.pT' hi) rfl ?_
  refine zc_size (c := sc S (1010 + i)) (n := 35) dX16_played_32 ml_X16_46 (hR.lT' hi) (by simp) (by omega) rfl ?_
  refine zs_iconst (v := 1) (n := 36) dX16_played_35 (by decide) rfl ?_
  refine zs_isub (n := 37) dX16_played_36 rfl ?_
  refine zs_i2l (n := 38) dX16_played_37 rfl ?_
  refine zc_S (n := 41) (As := [.long q.toInt64, .long (0 : Int64), .long ((nI (sc S (1010 + i))) - (1 : Int32)).toInt64]) (mc := 0) (ms := 0) dX16_played_38 ok_X16_in ⟨ml_X16_50, st_X16_in⟩ rfl (Nat.le_of_ble_eq_true rfl) (by simp) (by omega) (Nat.le_refl _) (Nat.le_refl _) rfl rfl (m_in (x := q) (lo := (0 : Int32)) (hi := ((nI (sc S (1010 + i))) - (1 : Int32))) rfl (by first | rfl | decide) (by first | rfl | decide)) ?_
  refine zs_if_eq (tgt := 76) (n := 44) dX16_played_41 (by decide) rfl (fun _ => ?_) (fun h => absurd (zb0.mpr (fIn_no (by omega) hx8)) h)
  refine zs_iconst (v := 0) (n := 77) dX16_played_76 (by decide) rfl ?_
  refine zs_istore (n := 79) dX16_played_77 (by decide) rfl ?_
  refine zs_aload_n (n := 80) dX16_played_79 rfl rfl ?_
  refine zs_iload_n (n := 81) dX16_played_80 rfl rfl ?_
  refine zs_if_ne (tgt := 88) (n := 84) dX16_played_81 (by decide) rfl (fun h => absurd hb0 h) (fun _ => ?_)
  refine zs_iconst (v := 2) (n := 85) dX16_played_84 (by decide) rfl ?_
  refine zs_goto (tgt := 109) dX16_played_85 (by decide) ?_
  refine zw_i (r := 1001) (n := 112) dX16_played_109 pf_X16_played_43 hR (lvM h4 (by omega)) (hR.kd (lvM h4 (by omega))) ⟨rfl, rfl⟩ (by decide) rfl ?_
  intro M hR hv
  refine zs_aload_n (n := 113) dX16_played_112 rfl rfl ?_
  refine zs_getv (x := (2 : Int32)) (n := 116) dX16_played_113 gf_X16_43 (hR.kd (lvM h4 (by omega))) (hR.iv (lvM h4 (by omega)) (by decide) (by decide)) rfl ?_
  refine zs_if_le (tgt := 123) (n := 119) dX16_played_116 (by decide) rfl (fun h => absurd h (by decide)) (fun _ => ?_)
  refine zs_null (n := 120) dX16_played_119 rfl ?_
  refine zs_goto (tgt := 144) dX16_played_120 (by decide) ?_
  refine zs_areturnN dX16_played_144 ⟨_, rfl, Or.inl ⟨_, rfl⟩⟩ ?_
  exact hQ _ hR
theorem k_played_2i {i k : Nat} {b : Int32} (hR : zRp Z Λ S M) (h4 : sc S 4 = 1) (hi : i < sc S 1000) (hk : k < sc S (1010 + i)) (hb0 : b = 0) : zG Z l 3 mth_X16_played [.ref (Λ 1001), .int (nI i), .int (nI k), .int b] M 0 0 (some .null) ((zRp Z Λ (mT S 2))) := by
  intro Q hQ
  have hb1 : sc S 1000 ≤ 6 := hR.bnd.2.1.1
  have hb3 := hR.bnd.2.2 i
  show zX Z l 3 mth_X16_played 0 [(0, .ref (Λ 1001)), (1, .int (nI i)), (2, .int (nI k)), (3, .int b)] [] M 0 0 Q
  refine zs_aload_n (n := 1) dX16_played_0 rfl rfl ?_
  refine zs_iload_n (n := 2) dX16_played_1 rfl rfl ?_
  refine zc_V (n := 5) (As := [.int (nI i)]) (ci := 21) (mc := 0) (ms := 0) dX16_played_2 ok_X16_isPitch ⟨ml_X16_84, im_X16_isPitch, sl_X16_isPitch⟩ rfl (hR.kd (lvM h4 (by omega))) rfl (Nat.le_of_ble_eq_true rfl) (by simp) (by omega) (Nat.le_refl _) (Nat.le_refl _) rfl rfl (k_isPitch hR h4) ?_
  refine zs_if_ne (tgt := 15) (n := 8) dX16_played_5 (by decide) rfl (fun _ => ?_) (fun h => absurd h (zb1.mpr (fIn_ix hi (by omega))))
  refine zs_iload_n (n := 16) dX16_played_15 rfl rfl ?_
  refine zs_i2l (n := 17) dX16_played_16 rfl ?_
  refine zs_lconst (v := 0) (n := 18) dX16_played_17 (by decide) rfl ?_
  refine zs_aload_n (n := 19) dX16_played_18 rfl rfl ?_
  refine zs_getr (b := (Λ 1015)) (n := 22) dX16_played_19 gf_X16_10 (hR.kd (lvM h4 (by omega))) (hR.pt (lvM h4 (by omega)) rfl (by decide)) rfl ?_
  refine zs_iload_n (n := 23) dX16_played_22 rfl rfl ?_
  refine zc_getb (c := sc S 1000) (b := (Λ (1100 + i))) (n := 26) dX16_played_23 ml_X16_94 (hR.lP' h4) hi rfl (by simp) (by omega) rfl ?_
  refine zs_castS (ci := 18) (n := 29) dX16_played_26 rfl cl_X16_68 (hR.kP' hi) rfl ?_
  refine zs_getr (b := (Λ (1120 + i))) (n := 32) dX16_played_29 gf_X16_164 (hR.kP' hi) (hR.pT' hi) rfl ?_
  refine zc_size (c := sc S (1010 + i)) (n := 35) dX16_played_32 ml_X16_46 (hR.lT' hi) (by simp) (by omega) rfl ?_
  refine zs_iconst (v := 1) (n := 36) dX16_played_35 (by decide) rfl ?_
  refine zs_isub (n := 37) dX16_played_36 rfl ?_
  refine zs_i2l (n := 38) dX16_played_37 rfl ?_
  refine zc_S (n := 41) (As := [.long (nI k).toInt64, .long (0 : Int64), .long ((nI (sc S (1010 + i))) - (1 : Int32)).toInt64]) (mc := 0) (ms := 0) dX16_played_38 ok_X16_in ⟨ml_X16_50, st_X16_in⟩ rfl (Nat.le_of_ble_eq_true rfl) (by simp) (by omega) (Nat.le_refl _) (Nat.le_refl _) rfl rfl (m_in (x := (nI k)) (lo := (0 : Int32)) (hi := ((nI (sc S (1010 + i))) - (1 : Int32))) rfl (by first | rfl | decide) (by first | rfl | decide)) ?_
  refine zs_if_eq (tgt := 76) (n := 44) dX16_played_41 (by decide) rfl (fun h => absurd h (zb1.mpr (fIn_ix hk (by omega)))) (fun _ => ?_)
  refine zs_aload_n (n := 45) dX16_played_44 rfl rfl ?_
  refine zs_getr (b := (Λ 1015)) (n := 48) dX16_played_45 gf_X16_10 (hR.kd (lvM h4 (by omega))) (hR.pt (lvM h4 (by omega)) rfl (by decide)) rfl ?_
  refine zs_iload_n (n := 49) dX16_played_48 rfl rfl ?_
  refine zc_getb (c := sc S 1000) (b := (Λ (1100 + i))) (n := 52) dX16_played_49 ml_X16_94 (hR.lP' h4) hi rfl (by simp) (by omega) rfl ?_
  refine zs_castS (ci := 18) (n := 55) dX16_played_52 rfl cl_X16_68 (hR.kP' hi) rfl ?_
  refine zs_getr (b := (Λ (1120 + i))) (n := 58) dX16_played_55 gf_X16_164 (hR.kP' hi) (hR.pT' hi) rfl ?_
  refine zs_iload_n (n := 59) dX16_played_58 rfl rfl ?_
  refine zc_getb (c := sc S (1010 + i)) (b := (Λ (1160 + 8 * i + k))) (n := 62) dX16_played_59 ml_X16_94 (hR.lT' hi) hk rfl (by simp) (by omega) rfl ?_
  refine zs_castS (ci := 19) (n := 65) dX16_played_62 rfl cl_X16_167 (hR.kK' hi hk) rfl ?_
  refine zs_getv (x := (sV S (1160 + 8 * i + k) 609)) (n := 68) dX16_played_65 gf_X16_211 (hR.kK' hi hk) (hR.iv (lvK' hi hk) (by decide) (by decide)) rfl ?_
  refine zs_iconst (v := -1) (n := 69) dX16_played_68 (by decide) rfl ?_
  refine zs_icmp_eq (tgt := 76) (n := 72) dX16_played_69 (by decide) rfl (fun h69 => ?_) (fun h69 => ?_)
  · refine zs_iconst (v := 0) (n := 77) dX16_played_76 (by decide) rfl ?_
    refine zs_istore (n := 79) dX16_played_77 (by decide) rfl ?_
    refine zs_aload_n (n := 80) dX16_played_79 rfl rfl ?_
    refine zs_iload_n (n := 81) dX16_played_80 rfl rfl ?_
    refine zs_if_ne (tgt := 88) (n := 84) dX16_played_81 (by decide) rfl (fun h => absurd hb0 h) (fun _ => ?_)
    refine zs_iconst (v := 2) (n := 85) dX16_played_84 (by decide) rfl ?_
    refine zs_goto (tgt := 109) dX16_played_85 (by decide) ?_
    refine zw_i (r := 1001) (n := 112) dX16_played_109 pf_X16_played_43 hR (lvM h4 (by omega)) (hR.kd (lvM h4 (by omega))) ⟨rfl, rfl⟩ (by decide) rfl ?_
    intro M hR hv
    refine zs_aload_n (n := 113) dX16_played_112 rfl rfl ?_
    refine zs_getv (x := (2 : Int32)) (n := 116) dX16_played_113 gf_X16_43 (hR.kd (lvM h4 (by omega))) (hR.iv (lvM h4 (by omega)) (by decide) (by decide)) rfl ?_
    refine zs_if_le (tgt := 123) (n := 119) dX16_played_116 (by decide) rfl (fun h => absurd h (by decide)) (fun _ => ?_)
    refine zs_null (n := 120) dX16_played_119 rfl ?_
    refine zs_goto (tgt := 144) dX16_played_120 (by decide) ?_
    refine zs_areturnN dX16_played_144 ⟨_, rfl, Or.inl ⟨_, rfl⟩⟩ ?_
    exact hQ _ hR
  · refine zs_iconst (v := 1) (n := 73) dX16_played_72 (by decide) rfl ?_
    refine zs_goto (tgt := 77) dX16_played_73 (by decide) ?_
    refine zs_istore (n := 79) dX16_played_77 (by decide) rfl ?_
    refine zs_aload_n (n := 80) dX16_played_79 rfl rfl ?_
    refine zs_iload_n (n := 81) dX16_played_80 rfl rfl ?_
    refine zs_if_ne (tgt := 88) (n := 84) dX16_played_81 (by decide) rfl (fun h => absurd hb0 h) (fun _ => ?_)
    refine zs_iconst (v := 2) (n := 85) dX16_played_84 (by decide) rfl ?_
    refine zs_goto (tgt := 109) dX16_played_85 (by decide) ?_
    refine zw_i (r := 1001) (n := 112) dX16_played_109 pf_X16_played_43 hR (lvM h4 (by omega)) (hR.kd (lvM h4 (by omega))) ⟨rfl, rfl⟩ (by decide) rfl ?_
    intro M hR hv
    refine zs_aload_n (n := 113) dX16_played_112 rfl rfl ?_
    refine zs_getv (x := (2 : Int32)) (n := 116) dX16_played_113 gf_X16_43 (hR.kd (lvM h4 (by omega))) (hR.iv (lvM h4 (by omega)) (by decide) (by decide)) rfl ?_
    refine zs_if_le (tgt := 123) (n := 119) dX16_played_116 (by decide) rfl (fun h => absurd h (by decide)) (fun _ => ?_)
    refine zs_null (n := 120) dX16_played_119 rfl ?_
    refine zs_goto (tgt := 144) dX16_played_120 (by decide) ?_
    refine zs_areturnN dX16_played_144 ⟨_, rfl, Or.inl ⟨_, rfl⟩⟩ ?_
    exact hQ _ hR
theorem k_played_3o {i : Nat} {q b : Int32} (hR : zRp Z Λ S M) (h4 : sc S 4 = 1) (hi : i < sc S 1000) (hx8 : ¬ (¬ q < 0 ∧ ¬ nI (sc S (1010 + i)) ≤ q)) (hb0 : ¬ b = 0) (hp : sV S 1001 680 = 0) : zG Z l 3 mth_X16_played [.ref (Λ 1001), .int (nI i), .int q, .int b] M 0 0 (some .null) ((zRp Z Λ (mT S 3))) := by
  intro Q hQ
  have hb1 : sc S 1000 ≤ 6 := hR.bnd.2.1.1
  have hb3 := hR.bnd.2.2 i
  show zX Z l 3 mth_X16_played 0 [(0, .ref (Λ 1001)), (1, .int (nI i)), (2, .int q), (3, .int b)] [] M 0 0 Q
  refine zs_aload_n (n := 1) dX16_played_0 rfl rfl ?_
  refine zs_iload_n (n := 2) dX16_played_1 rfl rfl ?_
  refine zc_V (n := 5) (As := [.int (nI i)]) (ci := 21) (mc := 0) (ms := 0) dX16_played_2 ok_X16_isPitch ⟨ml_X16_84, im_X16_isPitch, sl_X16_isPitch⟩ rfl (hR.kd (lvM h4 (by omega))) rfl (Nat.le_of_ble_eq_true rfl) (by simp) (by omega) (Nat.le_refl _) (Nat.le_refl _) rfl rfl (k_isPitch hR h4) ?_
  refine zs_if_ne (tgt := 15) (n := 8) dX16_played_5 (by decide) rfl (fun _ => ?_) (fun h => absurd h (zb1.mpr (fIn_ix hi (by omega))))
  refine zs_iload_n (n := 16) dX16_played_15 rfl rfl ?_
  refine zs_i2l (n := 17) dX16_played_16 rfl ?_
  refine zs_lconst (v := 0) (n := 18) dX16_played_17 (by decide) rfl ?_
  refine zs_aload_n (n := 19) dX16_played_18 rfl rfl ?_
  refine zs_getr (b := (Λ 1015)) (n := 22) dX16_played_19 gf_X16_10 (hR.kd (lvM h4 (by omega))) (hR.pt (lvM h4 (by omega)) rfl (by decide)) rfl ?_
  refine zs_iload_n (n := 23) dX16_played_22 rfl rfl ?_
  refine zc_getb (c := sc S 1000) (b := (Λ (1100 + i))) (n := 26) dX16_played_23 ml_X16_94 (hR.lP' h4) hi rfl (by simp) (by omega) rfl ?_
  refine zs_castS (ci := 18) (n := 29) dX16_played_26 rfl cl_X16_68 (hR.kP' hi) rfl ?_
  refine zs_getr (b := (Λ (1120 + i))) (n := 32) dX16_played_29 gf_X16_164 (hR.kP' hi) (hR.pT' hi) rfl ?_
  refine zc_size (c := sc S (1010 + i)) (n := 35) dX16_played_32 ml_X16_46 (hR.lT' hi) (by simp) (by omega) rfl ?_
  refine zs_iconst (v := 1) (n := 36) dX16_played_35 (by decide) rfl ?_
  refine zs_isub (n := 37) dX16_played_36 rfl ?_
  refine zs_i2l (n := 38) dX16_played_37 rfl ?_
  refine zc_S (n := 41) (As := [.long q.toInt64, .long (0 : Int64), .long ((nI (sc S (1010 + i))) - (1 : Int32)).toInt64]) (mc := 0) (ms := 0) dX16_played_38 ok_X16_in ⟨ml_X16_50, st_X16_in⟩ rfl (Nat.le_of_ble_eq_true rfl) (by simp) (by omega) (Nat.le_refl _) (Nat.le_refl _) rfl rfl (m_in (x := q) (lo := (0 : Int32)) (hi := ((nI (sc S (1010 + i))) - (1 : Int32))) rfl (by first | rfl | decide) (by first | rfl | decide)) ?_
  refine zs_if_eq (tgt := 76) (n := 44) dX16_played_41 (by decide) rfl (fun _ => ?_) (fun h => absurd (zb0.mpr (fIn_no (by omega) hx8)) h)
  refine zs_iconst (v := 0) (n := 77) dX16_played_76 (by decide) rfl ?_
  refine zs_istore (n := 79) dX16_played_77 (by decide) rfl ?_
  refine zs_aload_n (n := 80) dX16_played_79 rfl rfl ?_
  refine zs_iload_n (n := 81) dX16_played_80 rfl rfl ?_
  refine zs_if_ne (tgt := 88) (n := 84) dX16_played_81 (by decide) rfl (fun _ => ?_) (fun h => absurd h hb0)
  refine zs_aload_n (n := 89) dX16_played_88 rfl rfl ?_
  refine zs_getv (x := (sV S 1001 680)) (n := 92) dX16_played_89 gf_X16_161 (hR.kd (lvM h4 (by omega))) (hR.iv (lvM h4 (by omega)) (by decide) (by decide)) rfl ?_
  refine zs_if_ne (tgt := 99) (n := 95) dX16_played_92 (by decide) rfl (fun h => absurd hp h) (fun _ => ?_)
  refine zs_iconst (v := 3) (n := 96) dX16_played_95 (by decide) rfl ?_
  refine zs_goto (tgt := 109) dX16_played_96 (by decide) ?_
  refine zw_i (r := 1001) (n := 112) dX16_played_109 pf_X16_played_43 hR (lvM h4 (by omega)) (hR.kd (lvM h4 (by omega))) ⟨rfl, rfl⟩ (by decide) rfl ?_
  intro M hR hv
  refine zs_aload_n (n := 113) dX16_played_112 rfl rfl ?_
  refine zs_getv (x := (3 : Int32)) (n := 116) dX16_played_113 gf_X16_43 (hR.kd (lvM h4 (by omega))) (hR.iv (lvM h4 (by omega)) (by decide) (by decide)) rfl ?_
  refine zs_if_le (tgt := 123) (n := 119) dX16_played_116 (by decide) rfl (fun h => absurd h (by decide)) (fun _ => ?_)
  refine zs_null (n := 120) dX16_played_119 rfl ?_
  refine zs_goto (tgt := 144) dX16_played_120 (by decide) ?_
  refine zs_areturnN dX16_played_144 ⟨_, rfl, Or.inl ⟨_, rfl⟩⟩ ?_
  exact hQ _ hR
theorem k_played_3i {i k : Nat} {b : Int32} (hR : zRp Z Λ S M) (h4 : sc S 4 = 1) (hi : i < sc S 1000) (hk : k < sc S (1010 + i)) (hb0 : ¬ b = 0) (hp : sV S 1001 680 = 0) : zG Z l 3 mth_X16_played [.ref (Λ 1001), .int (nI i), .int (nI k), .int b] M 0 0 (some .null) ((zRp Z Λ (mT S 3))) := by
  intro Q hQ
  have hb1 : sc S 1000 ≤ 6 := hR.bnd.2.1.1
  have hb3 := hR.bnd.2.2 i
  show zX Z l 3 mth_X16_played 0 [(0, .ref (Λ 1001)), (1, .int (nI i)), (2, .int (nI k)), (3, .int b)] [] M 0 0 Q
  refine zs_aload_n (n := 1) dX16_played_0 rfl rfl ?_
  refine zs_iload_n (n := 2) dX16_played_1 rfl rfl ?_
  refine zc_V (n := 5) (As := [.int (nI i)]) (ci := 21) (mc := 0) (ms := 0) dX16_played_2 ok_X16_isPitch ⟨ml_X16_84, im_X16_isPitch, sl_X16_isPitch⟩ rfl (hR.kd (lvM h4 (by omega))) rfl (Nat.le_of_ble_eq_true rfl) (by simp) (by omega) (Nat.le_refl _) (Nat.le_refl _) rfl rfl (k_isPitch hR h4) ?_
  refine zs_if_ne (tgt := 15) (n := 8) dX16_played_5 (by decide) rfl (fun _ => ?_) (fun h => absurd h (zb1.mpr (fIn_ix hi (by omega))))
  refine zs_iload_n (n := 16) dX16_played_15 rfl rfl ?_
  refine zs_i2l (n := 17) dX16_played_16 rfl ?_
  refine zs_lconst (v := 0) (n := 18) dX16_played_17 (by decide) rfl ?_
  refine zs_aload_n (n := 19) dX16_played_18 rfl rfl ?_
  refine zs_getr (b := (Λ 1015)) (n := 22) dX16_played_19 gf_X16_10 (hR.kd (lvM h4 (by omega))) (hR.pt (lvM h4 (by omega)) rfl (by decide)) rfl ?_
  refine zs_iload_n (n := 23) dX16_played_22 rfl rfl ?_
  refine zc_getb (c := sc S 1000) (b := (Λ (1100 + i))) (n := 26) dX16_played_23 ml_X16_94 (hR.lP' h4) hi rfl (by simp) (by omega) rfl ?_
  refine zs_castS (ci := 18) (n := 29) dX16_played_26 rfl cl_X16_68 (hR.kP' hi) rfl ?_
  refine zs_getr (b := (Λ (1120 + i))) (n := 32) dX16_played_29 gf_X16_164 (hR.kP' hi) (hR.pT' hi) rfl ?_
  refine zc_size (c := sc S (1010 + i)) (n := 35) dX16_played_32 ml_X16_46 (hR.lT' hi) (by simp) (by omega) rfl ?_
  refine zs_iconst (v := 1) (n := 36) dX16_played_35 (by decide) rfl ?_
  refine zs_isub (n := 37) dX16_played_36 rfl ?_
  refine zs_i2l (n := 38) dX16_played_37 rfl ?_
  refine zc_S (n := 41) (As := [.long (nI k).toInt64, .long (0 : Int64), .long ((nI (sc S (1010 + i))) - (1 : Int32)).toInt64]) (mc := 0) (ms := 0) dX16_played_38 ok_X16_in ⟨ml_X16_50, st_X16_in⟩ rfl (Nat.le_of_ble_eq_true rfl) (by simp) (by omega) (Nat.le_refl _) (Nat.le_refl _) rfl rfl (m_in (x := (nI k)) (lo := (0 : Int32)) (hi := ((nI (sc S (1010 + i))) - (1 : Int32))) rfl (by first | rfl | decide) (by first | rfl | decide)) ?_
  refine zs_if_eq (tgt := 76) (n := 44) dX16_played_41 (by decide) rfl (fun h => absurd h (zb1.mpr (fIn_ix hk (by omega)))) (fun _ => ?_)
  refine zs_aload_n (n := 45) dX16_played_44 rfl rfl ?_
  refine zs_getr (b := (Λ 1015)) (n := 48) dX16_played_45 gf_X16_10 (hR.kd (lvM h4 (by omega))) (hR.pt (lvM h4 (by omega)) rfl (by decide)) rfl ?_
  refine zs_iload_n (n := 49) dX16_played_48 rfl rfl ?_
  refine zc_getb (c := sc S 1000) (b := (Λ (1100 + i))) (n := 52) dX16_played_49 ml_X16_94 (hR.lP' h4) hi rfl (by simp) (by omega) rfl ?_
  refine zs_castS (ci := 18) (n := 55) dX16_played_52 rfl cl_X16_68 (hR.kP' hi) rfl ?_
  refine zs_getr (b := (Λ (1120 + i))) (n := 58) dX16_played_55 gf_X16_164 (hR.kP' hi) (hR.pT' hi) rfl ?_
  refine zs_iload_n (n := 59) dX16_played_58 rfl rfl ?_
  refine zc_getb (c := sc S (1010 + i)) (b := (Λ (1160 + 8 * i + k))) (n := 62) dX16_played_59 ml_X16_94 (hR.lT' hi) hk rfl (by simp) (by omega) rfl ?_
  refine zs_castS (ci := 19) (n := 65) dX16_played_62 rfl cl_X16_167 (hR.kK' hi hk) rfl ?_
  refine zs_getv (x := (sV S (1160 + 8 * i + k) 609)) (n := 68) dX16_played_65 gf_X16_211 (hR.kK' hi hk) (hR.iv (lvK' hi hk) (by decide) (by decide)) rfl ?_
  refine zs_iconst (v := -1) (n := 69) dX16_played_68 (by decide) rfl ?_
  refine zs_icmp_eq (tgt := 76) (n := 72) dX16_played_69 (by decide) rfl (fun h69 => ?_) (fun h69 => ?_)
  · refine zs_iconst (v := 0) (n := 77) dX16_played_76 (by decide) rfl ?_
    refine zs_istore (n := 79) dX16_played_77 (by decide) rfl ?_
    refine zs_aload_n (n := 80) dX16_played_79 rfl rfl ?_
    refine zs_iload_n (n := 81) dX16_played_80 rfl rfl ?_
    refine zs_if_ne (tgt := 88) (n := 84) dX16_played_81 (by decide) rfl (fun _ => ?_) (fun h => absurd h hb0)
    refine zs_aload_n (n := 89) dX16_played_88 rfl rfl ?_
    refine zs_getv (x := (sV S 1001 680)) (n := 92) dX16_played_89 gf_X16_161 (hR.kd (lvM h4 (by omega))) (hR.iv (lvM h4 (by omega)) (by decide) (by decide)) rfl ?_
    refine zs_if_ne (tgt := 99) (n := 95) dX16_played_92 (by decide) rfl (fun h => absurd hp h) (fun _ => ?_)
    refine zs_iconst (v := 3) (n := 96) dX16_played_95 (by decide) rfl ?_
    refine zs_goto (tgt := 109) dX16_played_96 (by decide) ?_
    refine zw_i (r := 1001) (n := 112) dX16_played_109 pf_X16_played_43 hR (lvM h4 (by omega)) (hR.kd (lvM h4 (by omega))) ⟨rfl, rfl⟩ (by decide) rfl ?_
    intro M hR hv
    refine zs_aload_n (n := 113) dX16_played_112 rfl rfl ?_
    refine zs_getv (x := (3 : Int32)) (n := 116) dX16_played_113 gf_X16_43 (hR.kd (lvM h4 (by omega))) (hR.iv (lvM h4 (by omega)) (by decide) (by decide)) rfl ?_
    refine zs_if_le (tgt := 123) (n := 119) dX16_played_116 (by decide) rfl (fun h => absurd h (by decide)) (fun _ => ?_)
    refine zs_null (n := 120) dX16_played_119 rfl ?_
    refine zs_goto (tgt := 144) dX16_played_120 (by decide) ?_
    refine zs_areturnN dX16_played_144 ⟨_, rfl, Or.inl ⟨_, rfl⟩⟩ ?_
    exact hQ _ hR
  · refine zs_iconst (v := 1) (n := 73) dX16_played_72 (by decide) rfl ?_
    refine zs_goto (tgt := 77) dX16_played_73 (by decide) ?_
    refine zs_istore (n := 79) dX16_played_77 (by decide) rfl ?_
    refine zs_aload_n (n := 80) dX16_played_79 rfl rfl ?_
    refine zs_iload_n (n := 81) dX16_played_80 rfl rfl ?_
    refine zs_if_ne (tgt := 88) (n := 84) dX16_played_81 (by decide) rfl (fun _ => ?_) (fun h => absurd h hb0)
    refine zs_aload_n (n := 89) dX16_played_88 rfl rfl ?_
    refine zs_getv (x := (sV S 1001 680)) (n := 92) dX16_played_89 gf_X16_161 (hR.kd (lvM h4 (by omega))) (hR.iv (lvM h4 (by omega)) (by decide) (by decide)) rfl ?_
    refine zs_if_ne (tgt := 99) (n := 95) dX16_played_92 (by decide) rfl (fun h => absurd hp h) (fun _ => ?_)
    refine zs_iconst (v := 3) (n := 96) dX16_played_95 (by decide) rfl ?_
    refine zs_goto (tgt := 109) dX16_played_96 (by decide) ?_
    refine zw_i (r := 1001) (n := 112) dX16_played_109 pf_X16_played_43 hR (lvM h4 (by omega)) (hR.kd (lvM h4 (by omega))) ⟨rfl, rfl⟩ (by decide) rfl ?_
    intro M hR hv
    refine zs_aload_n (n := 113) dX16_played_112 rfl rfl ?_
    refine zs_getv (x := (3 : Int32)) (n := 116) dX16_played_113 gf_X16_43 (hR.kd (lvM h4 (by omega))) (hR.iv (lvM h4 (by omega)) (by decide) (by decide)) rfl ?_
    refine zs_if_le (tgt := 123) (n := 119) dX16_played_116 (by decide) rfl (fun h => absurd h (by decide)) (fun _ => ?_)
    refine zs_null (n := 120) dX16_played_119 rfl ?_
    refine zs_goto (tgt := 144) dX16_played_120 (by decide) ?_
    refine zs_areturnN dX16_played_144 ⟨_, rfl, Or.inl ⟨_, rfl⟩⟩ ?_
    exact hQ _ hR
theorem k_played_4o {i : Nat} {q b : Int32} (hR : zRp Z Λ S M) (h4 : sc S 4 = 1) (hi : i < sc S 1000) (hx8 : ¬ (¬ q < 0 ∧ ¬ nI (sc S (1010 + i)) ≤ q)) (hb0 : ¬ b = 0) (hp : ¬ sV S 1001 680 = 0) : zG Z l 3 mth_X16_played [.ref (Λ 1001), .int (nI i), .int q, .int b] M 0 0 (some .null) ((zRp Z Λ (mT S 4))) := by
  intro Q hQ
  have hb1 : sc S 1000 ≤ 6 := hR.bnd.2.1.1
  have hb3 := hR.bnd.2.2 i
  show zX Z l 3 mth_X16_played 0 [(0, .ref (Λ 1001)), (1, .int (nI i)), (2, .int q), (3, .int b)] [] M 0 0 Q
  refine zs_aload_n (n := 1) dX16_played_0 rfl rfl ?_
  refine zs_iload_n (n := 2) dX16_played_1 rfl rfl ?_
  refine zc_V (n := 5) (As := [.int (nI i)]) (ci := 21) (mc := 0) (ms := 0) dX16_played_2 ok_X16_isPitch ⟨ml_X16_84, im_X16_isPitch, sl_X16_isPitch⟩ rfl (hR.kd (lvM h4 (by omega))) rfl (Nat.le_of_ble_eq_true rfl) (by simp) (by omega) (Nat.le_refl _) (Nat.le_refl _) rfl rfl (k_isPitch hR h4) ?_
  refine zs_if_ne (tgt := 15) (n := 8) dX16_played_5 (by decide) rfl (fun _ => ?_) (fun h => absurd h (zb1.mpr (fIn_ix hi (by omega))))
  refine zs_iload_n (n := 16) dX16_played_15 rfl rfl ?_
  refine zs_i2l (n := 17) dX16_played_16 rfl ?_
  refine zs_lconst (v := 0) (n := 18) dX16_played_17 (by decide) rfl ?_
  refine zs_aload_n (n := 19) dX16_played_18 rfl rfl ?_
  refine zs_getr (b := (Λ 1015)) (n := 22) dX16_played_19 gf_X16_10 (hR.kd (lvM h4 (by omega))) (hR.pt (lvM h4 (by omega)) rfl (by decide)) rfl ?_
  refine zs_iload_n (n := 23) dX16_played_22 rfl rfl ?_
  refine zc_getb (c := sc S 1000) (b := (Λ (1100 + i))) (n := 26) dX16_played_23 ml_X16_94 (hR.lP' h4) hi rfl (by simp) (by omega) rfl ?_
  refine zs_castS (ci := 18) (n := 29) dX16_played_26 rfl cl_X16_68 (hR.kP' hi) rfl ?_
  refine zs_getr (b := (Λ (1120 + i))) (n := 32) dX16_played_29 gf_X16_164 (hR.kP' hi) (hR.pT' hi) rfl ?_
  refine zc_size (c := sc S (1010 + i)) (n := 35) dX16_played_32 ml_X16_46 (hR.lT' hi) (by simp) (by omega) rfl ?_
  refine zs_iconst (v := 1) (n := 36) dX16_played_35 (by decide) rfl ?_
  refine zs_isub (n := 37) dX16_played_36 rfl ?_
  refine zs_i2l (n := 38) dX16_played_37 rfl ?_
  refine zc_S (n := 41) (As := [.long q.toInt64, .long (0 : Int64), .long ((nI (sc S (1010 + i))) - (1 : Int32)).toInt64]) (mc := 0) (ms := 0) dX16_played_38 ok_X16_in ⟨ml_X16_50, st_X16_in⟩ rfl (Nat.le_of_ble_eq_true rfl) (by simp) (by omega) (Nat.le_refl _) (Nat.le_refl _) rfl rfl (m_in (x := q) (lo := (0 : Int32)) (hi := ((nI (sc S (1010 + i))) - (1 : Int32))) rfl (by first | rfl | decide) (by first | rfl | decide)) ?_
  refine zs_if_eq (tgt := 76) (n := 44) dX16_played_41 (by decide) rfl (fun _ => ?_) (fun h => absurd (zb0.mpr (fIn_no (by omega) hx8)) h)
  refine zs_iconst (v := 0) (n := 77) dX16_played_76 (by decide) rfl ?_
  refine zs_istore (n := 79) dX16_played_77 (by decide) rfl ?_
  refine zs_aload_n (n := 80) dX16_played_79 rfl rfl ?_
  refine zs_iload_n (n := 81) dX16_played_80 rfl rfl ?_
  refine zs_if_ne (tgt := 88) (n := 84) dX16_played_81 (by decide) rfl (fun _ => ?_) (fun h => absurd h hb0)
  refine zs_aload_n (n := 89) dX16_played_88 rfl rfl ?_
  refine zs_getv (x := (sV S 1001 680)) (n := 92) dX16_played_89 gf_X16_161 (hR.kd (lvM h4 (by omega))) (hR.iv (lvM h4 (by omega)) (by decide) (by decide)) rfl ?_
  refine zs_if_ne (tgt := 99) (n := 95) dX16_played_92 (by decide) rfl (fun _ => ?_) (fun h => absurd h hp)
  refine zs_iload (n := 101) dX16_played_99 rfl rfl ?_
  refine zs_if_ne (tgt := 108) (n := 104) dX16_played_101 (by decide) rfl (fun h => absurd (by decide) h) (fun _ => ?_)
  refine zs_iconst (v := 4) (n := 105) dX16_played_104 (by decide) rfl ?_
  refine zs_goto (tgt := 109) dX16_played_105 (by decide) ?_
  refine zw_i (r := 1001) (n := 112) dX16_played_109 pf_X16_played_43 hR (lvM h4 (by omega)) (hR.kd (lvM h4 (by omega))) ⟨rfl, rfl⟩ (by decide) rfl ?_
  intro M hR hv
  refine zs_aload_n (n := 113) dX16_played_112 rfl rfl ?_
  refine zs_getv (x := (4 : Int32)) (n := 116) dX16_played_113 gf_X16_43 (hR.kd (lvM h4 (by omega))) (hR.iv (lvM h4 (by omega)) (by decide) (by decide)) rfl ?_
  refine zs_if_le (tgt := 123) (n := 119) dX16_played_116 (by decide) rfl (fun h => absurd h (by decide)) (fun _ => ?_)
  refine zs_null (n := 120) dX16_played_119 rfl ?_
  refine zs_goto (tgt := 144) dX16_played_120 (by decide) ?_
  refine zs_areturnN dX16_played_144 ⟨_, rfl, Or.inl ⟨_, rfl⟩⟩ ?_
  exact hQ _ hR
theorem k_played_4i {i k : Nat} {b : Int32} (hR : zRp Z Λ S M) (h4 : sc S 4 = 1) (hi : i < sc S 1000) (hk : k < sc S (1010 + i)) (hb0 : ¬ b = 0) (hp : ¬ sV S 1001 680 = 0) (hbg : sV S (1160 + 8 * i + k) 609 = -1) : zG Z l 3 mth_X16_played [.ref (Λ 1001), .int (nI i), .int (nI k), .int b] M 0 0 (some .null) ((zRp Z Λ (mT S 4))) := by
  intro Q hQ
  have hb1 : sc S 1000 ≤ 6 := hR.bnd.2.1.1
  have hb3 := hR.bnd.2.2 i
  show zX Z l 3 mth_X16_played 0 [(0, .ref (Λ 1001)), (1, .int (nI i)), (2, .int (nI k)), (3, .int b)] [] M 0 0 Q
  refine zs_aload_n (n := 1) dX16_played_0 rfl rfl ?_
  refine zs_iload_n (n := 2) dX16_played_1 rfl rfl ?_
  refine zc_V (n := 5) (As := [.int (nI i)]) (ci := 21) (mc := 0) (ms := 0) dX16_played_2 ok_X16_isPitch ⟨ml_X16_84, im_X16_isPitch, sl_X16_isPitch⟩ rfl (hR.kd (lvM h4 (by omega))) rfl (Nat.le_of_ble_eq_true rfl) (by simp) (by omega) (Nat.le_refl _) (Nat.le_refl _) rfl rfl (k_isPitch hR h4) ?_
  refine zs_if_ne (tgt := 15) (n := 8) dX16_played_5 (by decide) rfl (fun _ => ?_) (fun h => absurd h (zb1.mpr (fIn_ix hi (by omega))))
  refine zs_iload_n (n := 16) dX16_played_15 rfl rfl ?_
  refine zs_i2l (n := 17) dX16_played_16 rfl ?_
  refine zs_lconst (v := 0) (n := 18) dX16_played_17 (by decide) rfl ?_
  refine zs_aload_n (n := 19) dX16_played_18 rfl rfl ?_
  refine zs_getr (b := (Λ 1015)) (n := 22) dX16_played_19 gf_X16_10 (hR.kd (lvM h4 (by omega))) (hR.pt (lvM h4 (by omega)) rfl (by decide)) rfl ?_
  refine zs_iload_n (n := 23) dX16_played_22 rfl rfl ?_
  refine zc_getb (c := sc S 1000) (b := (Λ (1100 + i))) (n := 26) dX16_played_23 ml_X16_94 (hR.lP' h4) hi rfl (by simp) (by omega) rfl ?_
  refine zs_castS (ci := 18) (n := 29) dX16_played_26 rfl cl_X16_68 (hR.kP' hi) rfl ?_
  refine zs_getr (b := (Λ (1120 + i))) (n := 32) dX16_played_29 gf_X16_164 (hR.kP' hi) (hR.pT' hi) rfl ?_
  refine zc_size (c := sc S (1010 + i)) (n := 35) dX16_played_32 ml_X16_46 (hR.lT' hi) (by simp) (by omega) rfl ?_
  refine zs_iconst (v := 1) (n := 36) dX16_played_35 (by decide) rfl ?_
  refine zs_isub (n := 37) dX16_played_36 rfl ?_
  refine zs_i2l (n := 38) dX16_played_37 rfl ?_
  refine zc_S (n := 41) (As := [.long (nI k).toInt64, .long (0 : Int64), .long ((nI (sc S (1010 + i))) - (1 : Int32)).toInt64]) (mc := 0) (ms := 0) dX16_played_38 ok_X16_in ⟨ml_X16_50, st_X16_in⟩ rfl (Nat.le_of_ble_eq_true rfl) (by simp) (by omega) (Nat.le_refl _) (Nat.le_refl _) rfl rfl (m_in (x := (nI k)) (lo := (0 : Int32)) (hi := ((nI (sc S (1010 + i))) - (1 : Int32))) rfl (by first | rfl | decide) (by first | rfl | decide)) ?_
  refine zs_if_eq (tgt := 76) (n := 44) dX16_played_41 (by decide) rfl (fun h => absurd h (zb1.mpr (fIn_ix hk (by omega)))) (fun _ => ?_)
  refine zs_aload_n (n := 45) dX16_played_44 rfl rfl ?_
  refine zs_getr (b := (Λ 1015)) (n := 48) dX16_played_45 gf_X16_10 (hR.kd (lvM h4 (by omega))) (hR.pt (lvM h4 (by omega)) rfl (by decide)) rfl ?_
  refine zs_iload_n (n := 49) dX16_played_48 rfl rfl ?_
  refine zc_getb (c := sc S 1000) (b := (Λ (1100 + i))) (n := 52) dX16_played_49 ml_X16_94 (hR.lP' h4) hi rfl (by simp) (by omega) rfl ?_
  refine zs_castS (ci := 18) (n := 55) dX16_played_52 rfl cl_X16_68 (hR.kP' hi) rfl ?_
  refine zs_getr (b := (Λ (1120 + i))) (n := 58) dX16_played_55 gf_X16_164 (hR.kP' hi) (hR.pT' hi) rfl ?_
  refine zs_iload_n (n := 59) dX16_played_58 rfl rfl ?_
  refine zc_getb (c := sc S (1010 + i)) (b := (Λ (1160 + 8 * i + k))) (n := 62) dX16_played_59 ml_X16_94 (hR.lT' hi) hk rfl (by simp) (by omega) rfl ?_
  refine zs_castS (ci := 19) (n := 65) dX16_played_62 rfl cl_X16_167 (hR.kK' hi hk) rfl ?_
  refine zs_getv (x := (sV S (1160 + 8 * i + k) 609)) (n := 68) dX16_played_65 gf_X16_211 (hR.kK' hi hk) (hR.iv (lvK' hi hk) (by decide) (by decide)) rfl ?_
  refine zs_iconst (v := -1) (n := 69) dX16_played_68 (by decide) rfl ?_
  refine zs_icmp_eq (tgt := 76) (n := 72) dX16_played_69 (by decide) rfl (fun _ => ?_) (fun h => absurd hbg h)
  refine zs_iconst (v := 0) (n := 77) dX16_played_76 (by decide) rfl ?_
  refine zs_istore (n := 79) dX16_played_77 (by decide) rfl ?_
  refine zs_aload_n (n := 80) dX16_played_79 rfl rfl ?_
  refine zs_iload_n (n := 81) dX16_played_80 rfl rfl ?_
  refine zs_if_ne (tgt := 88) (n := 84) dX16_played_81 (by decide) rfl (fun _ => ?_) (fun h => absurd h hb0)
  refine zs_aload_n (n := 89) dX16_played_88 rfl rfl ?_
  refine zs_getv (x := (sV S 1001 680)) (n := 92) dX16_played_89 gf_X16_161 (hR.kd (lvM h4 (by omega))) (hR.iv (lvM h4 (by omega)) (by decide) (by decide)) rfl ?_
  refine zs_if_ne (tgt := 99) (n := 95) dX16_played_92 (by decide) rfl (fun _ => ?_) (fun h => absurd h hp)
  refine zs_iload (n := 101) dX16_played_99 rfl rfl ?_
  refine zs_if_ne (tgt := 108) (n := 104) dX16_played_101 (by decide) rfl (fun h => absurd (by decide) h) (fun _ => ?_)
  refine zs_iconst (v := 4) (n := 105) dX16_played_104 (by decide) rfl ?_
  refine zs_goto (tgt := 109) dX16_played_105 (by decide) ?_
  refine zw_i (r := 1001) (n := 112) dX16_played_109 pf_X16_played_43 hR (lvM h4 (by omega)) (hR.kd (lvM h4 (by omega))) ⟨rfl, rfl⟩ (by decide) rfl ?_
  intro M hR hv
  refine zs_aload_n (n := 113) dX16_played_112 rfl rfl ?_
  refine zs_getv (x := (4 : Int32)) (n := 116) dX16_played_113 gf_X16_43 (hR.kd (lvM h4 (by omega))) (hR.iv (lvM h4 (by omega)) (by decide) (by decide)) rfl ?_
  refine zs_if_le (tgt := 123) (n := 119) dX16_played_116 (by decide) rfl (fun h => absurd h (by decide)) (fun _ => ?_)
  refine zs_null (n := 120) dX16_played_119 rfl ?_
  refine zs_goto (tgt := 144) dX16_played_120 (by decide) ?_
  refine zs_areturnN dX16_played_144 ⟨_, rfl, Or.inl ⟨_, rfl⟩⟩ ?_
  exact hQ _ hR
theorem k_played {i k : Nat} {b : Int32} (hR : zRp Z Λ S M) (h4 : sc S 4 = 1) (hi : i < sc S 1000) (hk : k < sc S (1010 + i)) (hb0 : ¬ b = 0) (hp : ¬ sV S 1001 680 = 0) (hbg : ¬ sV S (1160 + 8 * i + k) 609 = -1) : zG Z l 3 mth_X16_played [.ref (Λ 1001), .int (nI i), .int (nI k), .int b] M 0 0 (some (.ref (Λ (1160 + 8 * i + k)))) ((zRp Z Λ (mT S 0))) := by
  intro Q hQ
  have hb1 : sc S 1000 ≤ 6 := hR.bnd.2.1.1
  have hb3 := hR.bnd.2.2 i
  show zX Z l 3 mth_X16_played 0 [(0, .ref (Λ 1001)), (1, .int (nI i)), (2, .int (nI k)), (3, .int b)] [] M 0 0 Q
  refine zs_aload_n (n := 1) dX16_played_0 rfl rfl ?_
  refine zs_iload_n (n := 2) dX16_played_1 rfl rfl ?_
  refine zc_V (n := 5) (As := [.int (nI i)]) (ci := 21) (mc := 0) (ms := 0) dX16_played_2 ok_X16_isPitch ⟨ml_X16_84, im_X16_isPitch, sl_X16_isPitch⟩ rfl (hR.kd (lvM h4 (by omega))) rfl (Nat.le_of_ble_eq_true rfl) (by simp) (by omega) (Nat.le_refl _) (Nat.le_refl _) rfl rfl (k_isPitch hR h4) ?_
  refine zs_if_ne (tgt := 15) (n := 8) dX16_played_5 (by decide) rfl (fun _ => ?_) (fun h => absurd h (zb1.mpr (fIn_ix hi (by omega))))
  refine zs_iload_n (n := 16) dX16_played_15 rfl rfl ?_
  refine zs_i2l (n := 17) dX16_played_16 rfl ?_
  refine zs_lconst (v := 0) (n := 18) dX16_played_17 (by decide) rfl ?_
  refine zs_aload_n (n := 19) dX16_played_18 rfl rfl ?_
  refine zs_getr (b := (Λ 1015)) (n := 22) dX16_played_19 gf_X16_10 (hR.kd (lvM h4 (by omega))) (hR.pt (lvM h4 (by omega)) rfl (by decide)) rfl ?_
  refine zs_iload_n (n := 23) dX16_played_22 rfl rfl ?_
  refine zc_getb (c := sc S 1000) (b := (Λ (1100 + i))) (n := 26) dX16_played_23 ml_X16_94 (hR.lP' h4) hi rfl (by simp) (by omega) rfl ?_
  refine zs_castS (ci := 18) (n := 29) dX16_played_26 rfl cl_X16_68 (hR.kP' hi) rfl ?_
  refine zs_getr (b := (Λ (1120 + i))) (n := 32) dX16_played_29 gf_X16_164 (hR.kP' hi) (hR.pT' hi) rfl ?_
  refine zc_size (c := sc S (1010 + i)) (n := 35) dX16_played_32 ml_X16_46 (hR.lT' hi) (by simp) (by omega) rfl ?_
  refine zs_iconst (v := 1) (n := 36) dX16_played_35 (by decide) rfl ?_
  refine zs_isub (n := 37) dX16_played_36 rfl ?_
  refine zs_i2l (n := 38) dX16_played_37 rfl ?_
  refine zc_S (n := 41) (As := [.long (nI k).toInt64, .long (0 : Int64), .long ((nI (sc S (1010 + i))) - (1 : Int32)).toInt64]) (mc := 0) (ms := 0) dX16_played_38 ok_X16_in ⟨ml_X16_50, st_X16_in⟩ rfl (Nat.le_of_ble_eq_true rfl) (by simp) (by omega) (Nat.le_refl _) (Nat.le_refl _) rfl rfl (m_in (x := (nI k)) (lo := (0 : Int32)) (hi := ((nI (sc S (1010 + i))) - (1 : Int32))) rfl (by first | rfl | decide) (by first | rfl | decide)) ?_
  refine zs_if_eq (tgt := 76) (n := 44) dX16_played_41 (by decide) rfl (fun h => absurd h (zb1.mpr (fIn_ix hk (by omega)))) (fun _ => ?_)
  refine zs_aload_n (n := 45) dX16_played_44 rfl rfl ?_
  refine zs_getr (b := (Λ 1015)) (n := 48) dX16_played_45 gf_X16_10 (hR.kd (lvM h4 (by omega))) (hR.pt (lvM h4 (by omega)) rfl (by decide)) rfl ?_
  refine zs_iload_n (n := 49) dX16_played_48 rfl rfl ?_
  refine zc_getb (c := sc S 1000) (b := (Λ (1100 + i))) (n := 52) dX16_played_49 ml_X16_94 (hR.lP' h4) hi rfl (by simp) (by omega) rfl ?_
  refine zs_castS (ci := 18) (n := 55) dX16_played_52 rfl cl_X16_68 (hR.kP' hi) rfl ?_
  refine zs_getr (b := (Λ (1120 + i))) (n := 58) dX16_played_55 gf_X16_164 (hR.kP' hi) (hR.pT' hi) rfl ?_
  refine zs_iload_n (n := 59) dX16_played_58 rfl rfl ?_
  refine zc_getb (c := sc S (1010 + i)) (b := (Λ (1160 + 8 * i + k))) (n := 62) dX16_played_59 ml_X16_94 (hR.lT' hi) hk rfl (by simp) (by omega) rfl ?_
  refine zs_castS (ci := 19) (n := 65) dX16_played_62 rfl cl_X16_167 (hR.kK' hi hk) rfl ?_
  refine zs_getv (x := (sV S (1160 + 8 * i + k) 609)) (n := 68) dX16_played_65 gf_X16_211 (hR.kK' hi hk) (hR.iv (lvK' hi hk) (by decide) (by decide)) rfl ?_
  refine zs_iconst (v := -1) (n := 69) dX16_played_68 (by decide) rfl ?_
  refine zs_icmp_eq (tgt := 76) (n := 72) dX16_played_69 (by decide) rfl (fun h => absurd h hbg) (fun _ => ?_)
  refine zs_iconst (v := 1) (n := 73) dX16_played_72 (by decide) rfl ?_
  refine zs_goto (tgt := 77) dX16_played_73 (by decide) ?_
  refine zs_istore (n := 79) dX16_played_77 (by decide) rfl ?_
  refine zs_aload_n (n := 80) dX16_played_79 rfl rfl ?_
  refine zs_iload_n (n := 81) dX16_played_80 rfl rfl ?_
  refine zs_if_ne (tgt := 88) (n := 84) dX16_played_81 (by decide) rfl (fun _ => ?_) (fun h => absurd h hb0)
  refine zs_aload_n (n := 89) dX16_played_88 rfl rfl ?_
  refine zs_getv (x := (sV S 1001 680)) (n := 92) dX16_played_89 gf_X16_161 (hR.kd (lvM h4 (by omega))) (hR.iv (lvM h4 (by omega)) (by decide) (by decide)) rfl ?_
  refine zs_if_ne (tgt := 99) (n := 95) dX16_played_92 (by decide) rfl (fun _ => ?_) (fun h => absurd h hp)
  refine zs_iload (n := 101) dX16_played_99 rfl rfl ?_
  refine zs_if_ne (tgt := 108) (n := 104) dX16_played_101 (by decide) rfl (fun _ => ?_) (fun h => absurd h (by decide))
  refine zs_iconst (v := 0) (n := 109) dX16_played_108 (by decide) rfl ?_
  refine zw_i (r := 1001) (n := 112) dX16_played_109 pf_X16_played_43 hR (lvM h4 (by omega)) (hR.kd (lvM h4 (by omega))) ⟨rfl, rfl⟩ (by decide) rfl ?_
  intro M hR hv
  refine zs_aload_n (n := 113) dX16_played_112 rfl rfl ?_
  refine zs_getv (x := (0 : Int32)) (n := 116) dX16_played_113 gf_X16_43 (hR.kd (lvM h4 (by omega))) (hR.iv (lvM h4 (by omega)) (by decide) (by decide)) rfl ?_
  refine zs_if_le (tgt := 123) (n := 119) dX16_played_116 (by decide) rfl (fun _ => ?_) (fun h => absurd (by decide) h)
  refine zs_aload_n (n := 124) dX16_played_123 rfl rfl ?_
  refine zs_getr (b := (Λ 1015)) (n := 127) dX16_played_124 gf_X16_10 (hR.kd (lvM h4 (by omega))) (hR.pt (lvM h4 (by omega)) rfl (by decide)) rfl ?_
  refine zs_iload_n (n := 128) dX16_played_127 rfl rfl ?_
  refine zc_getb (c := sc S 1000) (b := (Λ (1100 + i))) (n := 131) dX16_played_128 ml_X16_94 (hR.lP' h4) hi rfl (by simp) (by omega) rfl ?_
  refine zs_castS (ci := 18) (n := 134) dX16_played_131 rfl cl_X16_68 (hR.kP' hi) rfl ?_
  refine zs_getr (b := (Λ (1120 + i))) (n := 137) dX16_played_134 gf_X16_164 (hR.kP' hi) (hR.pT' hi) rfl ?_
  refine zs_iload_n (n := 138) dX16_played_137 rfl rfl ?_
  refine zc_getb (c := sc S (1010 + i)) (b := (Λ (1160 + 8 * i + k))) (n := 141) dX16_played_138 ml_X16_94 (hR.lT' hi) hk rfl (by simp) (by omega) rfl ?_
  refine zs_castS (ci := 19) (n := 144) dX16_played_141 rfl cl_X16_167 (hR.kK' hi hk) rfl ?_
  refine zs_areturn dX16_played_144 ⟨_, rfl, Or.inl ⟨_, rfl⟩⟩ ?_
  exact hQ _ hR
theorem k_of_1 {p q c : Int32} (hR : zRp Z Λ S M) (h4 : sc S 4 = 1) (hx9 : ¬ (¬ p < 0 ∧ ¬ nI (sc S 1000) ≤ p)) (hw : ¬ fIdx c < 0) : zG Z l 5 mth_X16_of [.ref (Λ 1001), .int p, .int q, .int c] M 0 0 (some (.int 0)) ((zRp Z Λ (mT S 1))) := by
  intro Q hQ
  have hb1 : sc S 1000 ≤ 6 := hR.bnd.2.1.1
  show zX Z l 5 mth_X16_of 0 [(0, .ref (Λ 1001)), (1, .int p), (2, .int q), (3, .int c)] [] M 0 0 Q
  refine zs_aload_n (n := 1) dX16_of_0 rfl rfl ?_
  refine zs_iload_n (n := 2) dX16_of_1 rfl rfl ?_
  refine zs_iload_n (n := 3) dX16_of_2 rfl rfl ?_
  refine zs_ldcB (n := 6) dX16_of_3 rfl rfl ?_
  refine zs_iload_n (n := 7) dX16_of_6 rfl rfl ?_
  refine zc_indexOf (n := 10) dX16_of_7 ml_X16_309 (by simp) (by omega) rfl ?_
  refine zs_if_lt (tgt := 17) (n := 13) dX16_of_10 (by decide) rfl (fun h => absurd h hw) (fun _ => ?_)
  refine zs_iconst (v := 1) (n := 14) dX16_of_13 (by decide) rfl ?_
  refine zs_goto (tgt := 18) dX16_of_14 (by decide) ?_
  refine zg_V (n := 21) (As := [.int p, .int q, .int (1 : Int32)]) (ci := 21) (mc := 0) (ms := 0) dX16_of_18 ok_X16_played ⟨ml_X16_314, im_X16_played, sl_X16_played⟩ rfl (hR.kd (lvM h4 (by omega))) rfl (Nat.le_of_ble_eq_true rfl) (by simp) (by omega) (Nat.le_refl _) (Nat.le_refl _) rfl rfl (k_played_1 hR h4 hx9) ?_
  intro M hR
  refine zs_astoreN (n := 23) dX16_of_21 (by decide) rfl ?_
  refine zs_aloadN (n := 25) dX16_of_23 rfl rfl ?_
  refine zs_ifnonnullN (n := 28) dX16_of_25 rfl ?_
  refine zs_iconst (v := 0) (n := 29) dX16_of_28 (by decide) rfl ?_
  refine zs_ireturn dX16_of_29 ⟨_, rfl, rfl⟩ ?_
  exact hQ _ hR
theorem k_of_1n {p q c : Int32} (hR : zRp Z Λ S M) (h4 : sc S 4 = 1) (hx9 : ¬ (¬ p < 0 ∧ ¬ nI (sc S 1000) ≤ p)) (hw : fIdx c < 0) : zG Z l 5 mth_X16_of [.ref (Λ 1001), .int p, .int q, .int c] M 0 0 (some (.int 0)) ((zRp Z Λ (mT S 1))) := by
  intro Q hQ
  have hb1 : sc S 1000 ≤ 6 := hR.bnd.2.1.1
  show zX Z l 5 mth_X16_of 0 [(0, .ref (Λ 1001)), (1, .int p), (2, .int q), (3, .int c)] [] M 0 0 Q
  refine zs_aload_n (n := 1) dX16_of_0 rfl rfl ?_
  refine zs_iload_n (n := 2) dX16_of_1 rfl rfl ?_
  refine zs_iload_n (n := 3) dX16_of_2 rfl rfl ?_
  refine zs_ldcB (n := 6) dX16_of_3 rfl rfl ?_
  refine zs_iload_n (n := 7) dX16_of_6 rfl rfl ?_
  refine zc_indexOf (n := 10) dX16_of_7 ml_X16_309 (by simp) (by omega) rfl ?_
  refine zs_if_lt (tgt := 17) (n := 13) dX16_of_10 (by decide) rfl (fun _ => ?_) (fun h => absurd hw h)
  refine zs_iconst (v := 0) (n := 18) dX16_of_17 (by decide) rfl ?_
  refine zg_V (n := 21) (As := [.int p, .int q, .int (0 : Int32)]) (ci := 21) (mc := 0) (ms := 0) dX16_of_18 ok_X16_played ⟨ml_X16_314, im_X16_played, sl_X16_played⟩ rfl (hR.kd (lvM h4 (by omega))) rfl (Nat.le_of_ble_eq_true rfl) (by simp) (by omega) (Nat.le_refl _) (Nat.le_refl _) rfl rfl (k_played_1 hR h4 hx9) ?_
  intro M hR
  refine zs_astoreN (n := 23) dX16_of_21 (by decide) rfl ?_
  refine zs_aloadN (n := 25) dX16_of_23 rfl rfl ?_
  refine zs_ifnonnullN (n := 28) dX16_of_25 rfl ?_
  refine zs_iconst (v := 0) (n := 29) dX16_of_28 (by decide) rfl ?_
  refine zs_ireturn dX16_of_29 ⟨_, rfl, rfl⟩ ?_
  exact hQ _ hR
theorem k_of_2o {i : Nat} {q c : Int32} (hR : zRp Z Λ S M) (h4 : sc S 4 = 1) (hi : i < sc S 1000) (hx8 : ¬ (¬ q < 0 ∧ ¬ nI (sc S (1010 + i)) ≤ q)) (hw : fIdx c < 0) : zG Z l 5 mth_X16_of [.ref (Λ 1001), .int (nI i), .int q, .int c] M 0 0 (some (.int 0)) ((zRp Z Λ (mT S 2))) := by
  intro Q hQ
  have hb1 : sc S 1000 ≤ 6 := hR.bnd.2.1.1
  show zX Z l 5 mth_X16_of 0 [(0, .ref (Λ 1001)), (1, .int (nI i)), (2, .int q), (3, .int c)] [] M 0 0 Q
  refine zs_aload_n (n := 1) dX16_of_0 rfl rfl ?_
  refine zs_iload_n (n := 2) dX16_of_1 rfl rfl ?_
  refine zs_iload_n (n := 3) dX16_of_2 rfl rfl ?_
  refine zs_ldcB (n := 6) dX16_of_3 rfl rfl ?_
  refine zs_iload_n (n := 7) dX16_of_6 rfl rfl ?_
  refine zc_indexOf (n := 10) dX16_of_7 ml_X16_309 (by simp) (by omega) rfl ?_
  refine zs_if_lt (tgt := 17) (n := 13) dX16_of_10 (by decide) rfl (fun _ => ?_) (fun h => absurd hw h)
  refine zs_iconst (v := 0) (n := 18) dX16_of_17 (by decide) rfl ?_
  refine zg_V (n := 21) (As := [.int (nI i), .int q, .int (0 : Int32)]) (ci := 21) (mc := 0) (ms := 0) dX16_of_18 ok_X16_played ⟨ml_X16_314, im_X16_played, sl_X16_played⟩ rfl (hR.kd (lvM h4 (by omega))) rfl (Nat.le_of_ble_eq_true rfl) (by simp) (by omega) (Nat.le_refl _) (Nat.le_refl _) rfl rfl (k_played_2o hR h4 hi hx8 rfl) ?_
  intro M hR
  refine zs_astoreN (n := 23) dX16_of_21 (by decide) rfl ?_
  refine zs_aloadN (n := 25) dX16_of_23 rfl rfl ?_
  refine zs_ifnonnullN (n := 28) dX16_of_25 rfl ?_
  refine zs_iconst (v := 0) (n := 29) dX16_of_28 (by decide) rfl ?_
  refine zs_ireturn dX16_of_29 ⟨_, rfl, rfl⟩ ?_
  exact hQ _ hR
theorem k_of_2i {i k : Nat} {c : Int32} (hR : zRp Z Λ S M) (h4 : sc S 4 = 1) (hi : i < sc S 1000) (hk : k < sc S (1010 + i)) (hw : fIdx c < 0) : zG Z l 5 mth_X16_of [.ref (Λ 1001), .int (nI i), .int (nI k), .int c] M 0 0 (some (.int 0)) ((zRp Z Λ (mT S 2))) := by
  intro Q hQ
  have hb1 : sc S 1000 ≤ 6 := hR.bnd.2.1.1
  show zX Z l 5 mth_X16_of 0 [(0, .ref (Λ 1001)), (1, .int (nI i)), (2, .int (nI k)), (3, .int c)] [] M 0 0 Q
  refine zs_aload_n (n := 1) dX16_of_0 rfl rfl ?_
  refine zs_iload_n (n := 2) dX16_of_1 rfl rfl ?_
  refine zs_iload_n (n := 3) dX16_of_2 rfl rfl ?_
  refine zs_ldcB (n := 6) dX16_of_3 rfl rfl ?_
  refine zs_iload_n (n := 7) dX16_of_6 rfl rfl ?_
  refine zc_indexOf (n := 10) dX16_of_7 ml_X16_309 (by simp) (by omega) rfl ?_
  refine zs_if_lt (tgt := 17) (n := 13) dX16_of_10 (by decide) rfl (fun _ => ?_) (fun h => absurd hw h)
  refine zs_iconst (v := 0) (n := 18) dX16_of_17 (by decide) rfl ?_
  refine zg_V (n := 21) (As := [.int (nI i), .int (nI k), .int (0 : Int32)]) (ci := 21) (mc := 0) (ms := 0) dX16_of_18 ok_X16_played ⟨ml_X16_314, im_X16_played, sl_X16_played⟩ rfl (hR.kd (lvM h4 (by omega))) rfl (Nat.le_of_ble_eq_true rfl) (by simp) (by omega) (Nat.le_refl _) (Nat.le_refl _) rfl rfl (k_played_2i hR h4 hi hk rfl) ?_
  intro M hR
  refine zs_astoreN (n := 23) dX16_of_21 (by decide) rfl ?_
  refine zs_aloadN (n := 25) dX16_of_23 rfl rfl ?_
  refine zs_ifnonnullN (n := 28) dX16_of_25 rfl ?_
  refine zs_iconst (v := 0) (n := 29) dX16_of_28 (by decide) rfl ?_
  refine zs_ireturn dX16_of_29 ⟨_, rfl, rfl⟩ ?_
  exact hQ _ hR
theorem k_of_3o {i : Nat} {q c : Int32} (hR : zRp Z Λ S M) (h4 : sc S 4 = 1) (hi : i < sc S 1000) (hx8 : ¬ (¬ q < 0 ∧ ¬ nI (sc S (1010 + i)) ≤ q)) (hw : ¬ fIdx c < 0) (hp : sV S 1001 680 = 0) : zG Z l 5 mth_X16_of [.ref (Λ 1001), .int (nI i), .int q, .int c] M 0 0 (some (.int 0)) ((zRp Z Λ (mT S 3))) := by
  intro Q hQ
  have hb1 : sc S 1000 ≤ 6 := hR.bnd.2.1.1
  show zX Z l 5 mth_X16_of 0 [(0, .ref (Λ 1001)), (1, .int (nI i)), (2, .int q), (3, .int c)] [] M 0 0 Q
  refine zs_aload_n (n := 1) dX16_of_0 rfl rfl ?_
  refine zs_iload_n (n := 2) dX16_of_1 rfl rfl ?_
  refine zs_iload_n (n := 3) dX16_of_2 rfl rfl ?_
  refine zs_ldcB (n := 6) dX16_of_3 rfl rfl ?_
  refine zs_iload_n (n := 7) dX16_of_6 rfl rfl ?_
  refine zc_indexOf (n := 10) dX16_of_7 ml_X16_309 (by simp) (by omega) rfl ?_
  refine zs_if_lt (tgt := 17) (n := 13) dX16_of_10 (by decide) rfl (fun h => absurd h hw) (fun _ => ?_)
  refine zs_iconst (v := 1) (n := 14) dX16_of_13 (by decide) rfl ?_
  refine zs_goto (tgt := 18) dX16_of_14 (by decide) ?_
  refine zg_V (n := 21) (As := [.int (nI i), .int q, .int (1 : Int32)]) (ci := 21) (mc := 0) (ms := 0) dX16_of_18 ok_X16_played ⟨ml_X16_314, im_X16_played, sl_X16_played⟩ rfl (hR.kd (lvM h4 (by omega))) rfl (Nat.le_of_ble_eq_true rfl) (by simp) (by omega) (Nat.le_refl _) (Nat.le_refl _) rfl rfl (k_played_3o hR h4 hi hx8 (by decide) hp) ?_
  intro M hR
  refine zs_astoreN (n := 23) dX16_of_21 (by decide) rfl ?_
  refine zs_aloadN (n := 25) dX16_of_23 rfl rfl ?_
  refine zs_ifnonnullN (n := 28) dX16_of_25 rfl ?_
  refine zs_iconst (v := 0) (n := 29) dX16_of_28 (by decide) rfl ?_
  refine zs_ireturn dX16_of_29 ⟨_, rfl, rfl⟩ ?_
  exact hQ _ hR
theorem k_of_3i {i k : Nat} {c : Int32} (hR : zRp Z Λ S M) (h4 : sc S 4 = 1) (hi : i < sc S 1000) (hk : k < sc S (1010 + i)) (hw : ¬ fIdx c < 0) (hp : sV S 1001 680 = 0) : zG Z l 5 mth_X16_of [.ref (Λ 1001), .int (nI i), .int (nI k), .int c] M 0 0 (some (.int 0)) ((zRp Z Λ (mT S 3))) := by
  intro Q hQ
  have hb1 : sc S 1000 ≤ 6 := hR.bnd.2.1.1
  show zX Z l 5 mth_X16_of 0 [(0, .ref (Λ 1001)), (1, .int (nI i)), (2, .int (nI k)), (3, .int c)] [] M 0 0 Q
  refine zs_aload_n (n := 1) dX16_of_0 rfl rfl ?_
  refine zs_iload_n (n := 2) dX16_of_1 rfl rfl ?_
  refine zs_iload_n (n := 3) dX16_of_2 rfl rfl ?_
  refine zs_ldcB (n := 6) dX16_of_3 rfl rfl ?_
  refine zs_iload_n (n := 7) dX16_of_6 rfl rfl ?_
  refine zc_indexOf (n := 10) dX16_of_7 ml_X16_309 (by simp) (by omega) rfl ?_
  refine zs_if_lt (tgt := 17) (n := 13) dX16_of_10 (by decide) rfl (fun h => absurd h hw) (fun _ => ?_)
  refine zs_iconst (v := 1) (n := 14) dX16_of_13 (by decide) rfl ?_
  refine zs_goto (tgt := 18) dX16_of_14 (by decide) ?_
  refine zg_V (n := 21) (As := [.int (nI i), .int (nI k), .int (1 : Int32)]) (ci := 21) (mc := 0) (ms := 0) dX16_of_18 ok_X16_played ⟨ml_X16_314, im_X16_played, sl_X16_played⟩ rfl (hR.kd (lvM h4 (by omega))) rfl (Nat.le_of_ble_eq_true rfl) (by simp) (by omega) (Nat.le_refl _) (Nat.le_refl _) rfl rfl (k_played_3i hR h4 hi hk (by decide) hp) ?_
  intro M hR
  refine zs_astoreN (n := 23) dX16_of_21 (by decide) rfl ?_
  refine zs_aloadN (n := 25) dX16_of_23 rfl rfl ?_
  refine zs_ifnonnullN (n := 28) dX16_of_25 rfl ?_
  refine zs_iconst (v := 0) (n := 29) dX16_of_28 (by decide) rfl ?_
  refine zs_ireturn dX16_of_29 ⟨_, rfl, rfl⟩ ?_
  exact hQ _ hR
theorem k_of_4o {i : Nat} {q c : Int32} (hR : zRp Z Λ S M) (h4 : sc S 4 = 1) (hi : i < sc S 1000) (hx8 : ¬ (¬ q < 0 ∧ ¬ nI (sc S (1010 + i)) ≤ q)) (hw : ¬ fIdx c < 0) (hp : ¬ sV S 1001 680 = 0) : zG Z l 5 mth_X16_of [.ref (Λ 1001), .int (nI i), .int q, .int c] M 0 0 (some (.int 0)) ((zRp Z Λ (mT S 4))) := by
  intro Q hQ
  have hb1 : sc S 1000 ≤ 6 := hR.bnd.2.1.1
  show zX Z l 5 mth_X16_of 0 [(0, .ref (Λ 1001)), (1, .int (nI i)), (2, .int q), (3, .int c)] [] M 0 0 Q
  refine zs_aload_n (n := 1) dX16_of_0 rfl rfl ?_
  refine zs_iload_n (n := 2) dX16_of_1 rfl rfl ?_
  refine zs_iload_n (n := 3) dX16_of_2 rfl rfl ?_
  refine zs_ldcB (n := 6) dX16_of_3 rfl rfl ?_
  refine zs_iload_n (n := 7) dX16_of_6 rfl rfl ?_
  refine zc_indexOf (n := 10) dX16_of_7 ml_X16_309 (by simp) (by omega) rfl ?_
  refine zs_if_lt (tgt := 17) (n := 13) dX16_of_10 (by decide) rfl (fun h => absurd h hw) (fun _ => ?_)
  refine zs_iconst (v := 1) (n := 14) dX16_of_13 (by decide) rfl ?_
  refine zs_goto (tgt := 18) dX16_of_14 (by decide) ?_
  refine zg_V (n := 21) (As := [.int (nI i), .int q, .int (1 : Int32)]) (ci := 21) (mc := 0) (ms := 0) dX16_of_18 ok_X16_played ⟨ml_X16_314, im_X16_played, sl_X16_played⟩ rfl (hR.kd (lvM h4 (by omega))) rfl (Nat.le_of_ble_eq_true rfl) (by simp) (by omega) (Nat.le_refl _) (Nat.le_refl _) rfl rfl (k_played_4o hR h4 hi hx8 (by decide) hp) ?_
  intro M hR
  refine zs_astoreN (n := 23) dX16_of_21 (by decide) rfl ?_
  refine zs_aloadN (n := 25) dX16_of_23 rfl rfl ?_
  refine zs_ifnonnullN (n := 28) dX16_of_25 rfl ?_
  refine zs_iconst (v := 0) (n := 29) dX16_of_28 (by decide) rfl ?_
  refine zs_ireturn dX16_of_29 ⟨_, rfl, rfl⟩ ?_
  exact hQ _ hR
theorem k_of_4i {i k : Nat} {c : Int32} (hR : zRp Z Λ S M) (h4 : sc S 4 = 1) (hi : i < sc S 1000) (hk : k < sc S (1010 + i)) (hw : ¬ fIdx c < 0) (hp : ¬ sV S 1001 680 = 0) (hbg : sV S (1160 + 8 * i + k) 609 = -1) : zG Z l 5 mth_X16_of [.ref (Λ 1001), .int (nI i), .int (nI k), .int c] M 0 0 (some (.int 0)) ((zRp Z Λ (mT S 4))) := by
  intro Q hQ
  have hb1 : sc S 1000 ≤ 6 := hR.bnd.2.1.1
  show zX Z l 5 mth_X16_of 0 [(0, .ref (Λ 1001)), (1, .int (nI i)), (2, .int (nI k)), (3, .int c)] [] M 0 0 Q
  refine zs_aload_n (n := 1) dX16_of_0 rfl rfl ?_
  refine zs_iload_n (n := 2) dX16_of_1 rfl rfl ?_
  refine zs_iload_n (n := 3) dX16_of_2 rfl rfl ?_
  refine zs_ldcB (n := 6) dX16_of_3 rfl rfl ?_
  refine zs_iload_n (n := 7) dX16_of_6 rfl rfl ?_
  refine zc_indexOf (n := 10) dX16_of_7 ml_X16_309 (by simp) (by omega) rfl ?_
  refine zs_if_lt (tgt := 17) (n := 13) dX16_of_10 (by decide) rfl (fun h => absurd h hw) (fun _ => ?_)
  refine zs_iconst (v := 1) (n := 14) dX16_of_13 (by decide) rfl ?_
  refine zs_goto (tgt := 18) dX16_of_14 (by decide) ?_
  refine zg_V (n := 21) (As := [.int (nI i), .int (nI k), .int (1 : Int32)]) (ci := 21) (mc := 0) (ms := 0) dX16_of_18 ok_X16_played ⟨ml_X16_314, im_X16_played, sl_X16_played⟩ rfl (hR.kd (lvM h4 (by omega))) rfl (Nat.le_of_ble_eq_true rfl) (by simp) (by omega) (Nat.le_refl _) (Nat.le_refl _) rfl rfl (k_played_4i hR h4 hi hk (by decide) hp hbg) ?_
  intro M hR
  refine zs_astoreN (n := 23) dX16_of_21 (by decide) rfl ?_
  refine zs_aloadN (n := 25) dX16_of_23 rfl rfl ?_
  refine zs_ifnonnullN (n := 28) dX16_of_25 rfl ?_
  refine zs_iconst (v := 0) (n := 29) dX16_of_28 (by decide) rfl ?_
  refine zs_ireturn dX16_of_29 ⟨_, rfl, rfl⟩ ?_
  exact hQ _ hR
theorem k_of_b {i k : Nat} (hR : zRp Z Λ S M) (h4 : sc S 4 = 1) (hi : i < sc S 1000) (hk : k < sc S (1010 + i)) (hp : ¬ sV S 1001 680 = 0) (hbg : ¬ sV S (1160 + 8 * i + k) 609 = -1) : zG Z l 5 mth_X16_of [.ref (Λ 1001), .int (nI i), .int (nI k), .int (98 : Int32)] M 0 0 (some (.int (sV S (1160 + 8 * i + k) 609))) ((zRp Z Λ (mT S 0))) := by
  intro Q hQ
  have hb1 : sc S 1000 ≤ 6 := hR.bnd.2.1.1
  show zX Z l 5 mth_X16_of 0 [(0, .ref (Λ 1001)), (1, .int (nI i)), (2, .int (nI k)), (3, .int (98 : Int32))] [] M 0 0 Q
  refine zs_aload_n (n := 1) dX16_of_0 rfl rfl ?_
  refine zs_iload_n (n := 2) dX16_of_1 rfl rfl ?_
  refine zs_iload_n (n := 3) dX16_of_2 rfl rfl ?_
  refine zs_ldcB (n := 6) dX16_of_3 rfl rfl ?_
  refine zs_iload_n (n := 7) dX16_of_6 rfl rfl ?_
  refine zc_indexOf (n := 10) dX16_of_7 ml_X16_309 (by simp) (by omega) rfl ?_
  refine zs_if_lt (tgt := 17) (n := 13) dX16_of_10 (by decide) rfl (fun h => absurd h (by decide +kernel)) (fun _ => ?_)
  refine zs_iconst (v := 1) (n := 14) dX16_of_13 (by decide) rfl ?_
  refine zs_goto (tgt := 18) dX16_of_14 (by decide) ?_
  refine zg_V (n := 21) (As := [.int (nI i), .int (nI k), .int (1 : Int32)]) (ci := 21) (mc := 0) (ms := 0) dX16_of_18 ok_X16_played ⟨ml_X16_314, im_X16_played, sl_X16_played⟩ rfl (hR.kd (lvM h4 (by omega))) rfl (Nat.le_of_ble_eq_true rfl) (by simp) (by omega) (Nat.le_refl _) (Nat.le_refl _) rfl rfl (k_played hR h4 hi hk (by decide) hp hbg) ?_
  intro M hR
  refine zs_astore (n := 23) dX16_of_21 (by decide) rfl ?_
  refine zs_aload (n := 25) dX16_of_23 rfl rfl ?_
  refine zs_ifnonnull (tgt := 30) dX16_of_25 (by decide) ?_
  refine zs_iload_n (n := 31) dX16_of_30 rfl rfl ?_
  refine zs_lookup (tgt := 80) dX16_of_31 (by decide) rfl (by decide) ?_
  refine zs_aload (n := 82) dX16_of_80 rfl rfl ?_
  refine zs_getv (x := (sV (mT S 0) (1160 + 8 * i + k) 609)) (n := 85) dX16_of_82 gf_X16_211 (hR.kK' hi hk) (hR.iv (lvK' hi hk) (by decide) (by decide)) rfl ?_
  refine zs_ireturn dX16_of_85 ⟨_, rfl, rfl⟩ ?_
  exact hQ _ hR
theorem k_of_e {i k : Nat} (hR : zRp Z Λ S M) (h4 : sc S 4 = 1) (hi : i < sc S 1000) (hk : k < sc S (1010 + i)) (hp : ¬ sV S 1001 680 = 0) (hbg : ¬ sV S (1160 + 8 * i + k) 609 = -1) : zG Z l 5 mth_X16_of [.ref (Λ 1001), .int (nI i), .int (nI k), .int (101 : Int32)] M 0 0 (some (.int (sV S (1160 + 8 * i + k) 610))) ((zRp Z Λ (mT S 0))) := by
  intro Q hQ
  have hb1 : sc S 1000 ≤ 6 := hR.bnd.2.1.1
  show zX Z l 5 mth_X16_of 0 [(0, .ref (Λ 1001)), (1, .int (nI i)), (2, .int (nI k)), (3, .int (101 : Int32))] [] M 0 0 Q
  refine zs_aload_n (n := 1) dX16_of_0 rfl rfl ?_
  refine zs_iload_n (n := 2) dX16_of_1 rfl rfl ?_
  refine zs_iload_n (n := 3) dX16_of_2 rfl rfl ?_
  refine zs_ldcB (n := 6) dX16_of_3 rfl rfl ?_
  refine zs_iload_n (n := 7) dX16_of_6 rfl rfl ?_
  refine zc_indexOf (n := 10) dX16_of_7 ml_X16_309 (by simp) (by omega) rfl ?_
  refine zs_if_lt (tgt := 17) (n := 13) dX16_of_10 (by decide) rfl (fun h => absurd h (by decide +kernel)) (fun _ => ?_)
  refine zs_iconst (v := 1) (n := 14) dX16_of_13 (by decide) rfl ?_
  refine zs_goto (tgt := 18) dX16_of_14 (by decide) ?_
  refine zg_V (n := 21) (As := [.int (nI i), .int (nI k), .int (1 : Int32)]) (ci := 21) (mc := 0) (ms := 0) dX16_of_18 ok_X16_played ⟨ml_X16_314, im_X16_played, sl_X16_played⟩ rfl (hR.kd (lvM h4 (by omega))) rfl (Nat.le_of_ble_eq_true rfl) (by simp) (by omega) (Nat.le_refl _) (Nat.le_refl _) rfl rfl (k_played hR h4 hi hk (by decide) hp hbg) ?_
  intro M hR
  refine zs_astore (n := 23) dX16_of_21 (by decide) rfl ?_
  refine zs_aload (n := 25) dX16_of_23 rfl rfl ?_
  refine zs_ifnonnull (tgt := 30) dX16_of_25 (by decide) ?_
  refine zs_iload_n (n := 31) dX16_of_30 rfl rfl ?_
  refine zs_lookup (tgt := 86) dX16_of_31 (by decide) rfl (by decide) ?_
  refine zs_aload (n := 88) dX16_of_86 rfl rfl ?_
  refine zs_getv (x := (sV (mT S 0) (1160 + 8 * i + k) 610)) (n := 91) dX16_of_88 gf_X16_217 (hR.kK' hi hk) (hR.iv (lvK' hi hk) (by decide) (by decide)) rfl ?_
  refine zs_ireturn dX16_of_91 ⟨_, rfl, rfl⟩ ?_
  exact hQ _ hR
theorem k_of_m {i k : Nat} (hR : zRp Z Λ S M) (h4 : sc S 4 = 1) (hi : i < sc S 1000) (hk : k < sc S (1010 + i)) (hp : ¬ sV S 1001 680 = 0) (hbg : ¬ sV S (1160 + 8 * i + k) 609 = -1) : zG Z l 5 mth_X16_of [.ref (Λ 1001), .int (nI i), .int (nI k), .int (109 : Int32)] M 0 0 (some (.int (sV S (1160 + 8 * i + k) 612))) ((zRp Z Λ (mT S 0))) := by
  intro Q hQ
  have hb1 : sc S 1000 ≤ 6 := hR.bnd.2.1.1
  show zX Z l 5 mth_X16_of 0 [(0, .ref (Λ 1001)), (1, .int (nI i)), (2, .int (nI k)), (3, .int (109 : Int32))] [] M 0 0 Q
  refine zs_aload_n (n := 1) dX16_of_0 rfl rfl ?_
  refine zs_iload_n (n := 2) dX16_of_1 rfl rfl ?_
  refine zs_iload_n (n := 3) dX16_of_2 rfl rfl ?_
  refine zs_ldcB (n := 6) dX16_of_3 rfl rfl ?_
  refine zs_iload_n (n := 7) dX16_of_6 rfl rfl ?_
  refine zc_indexOf (n := 10) dX16_of_7 ml_X16_309 (by simp) (by omega) rfl ?_
  refine zs_if_lt (tgt := 17) (n := 13) dX16_of_10 (by decide) rfl (fun h => absurd h (by decide +kernel)) (fun _ => ?_)
  refine zs_iconst (v := 1) (n := 14) dX16_of_13 (by decide) rfl ?_
  refine zs_goto (tgt := 18) dX16_of_14 (by decide) ?_
  refine zg_V (n := 21) (As := [.int (nI i), .int (nI k), .int (1 : Int32)]) (ci := 21) (mc := 0) (ms := 0) dX16_of_18 ok_X16_played ⟨ml_X16_314, im_X16_played, sl_X16_played⟩ rfl (hR.kd (lvM h4 (by omega))) rfl (Nat.le_of_ble_eq_true rfl) (by simp) (by omega) (Nat.le_refl _) (Nat.le_refl _) rfl rfl (k_played hR h4 hi hk (by decide) hp hbg) ?_
  intro M hR
  refine zs_astore (n := 23) dX16_of_21 (by decide) rfl ?_
  refine zs_aload (n := 25) dX16_of_23 rfl rfl ?_
  refine zs_ifnonnull (tgt := 30) dX16_of_25 (by decide) ?_
  refine zs_iload_n (n := 31) dX16_of_30 rfl rfl ?_
  refine zs_lookup (tgt := 92) dX16_of_31 (by decide) rfl (by decide) ?_
  refine zs_aload (n := 94) dX16_of_92 rfl rfl ?_
  refine zs_getv (x := (sV (mT S 0) (1160 + 8 * i + k) 612)) (n := 97) dX16_of_94 gf_X16_277 (hR.kK' hi hk) (hR.iv (lvK' hi hk) (by decide) (by decide)) rfl ?_
  refine zs_ireturn dX16_of_97 ⟨_, rfl, rfl⟩ ?_
  exact hQ _ hR
theorem k_of_s {i k : Nat} (hR : zRp Z Λ S M) (h4 : sc S 4 = 1) (hi : i < sc S 1000) (hk : k < sc S (1010 + i)) (hp : ¬ sV S 1001 680 = 0) (hbg : ¬ sV S (1160 + 8 * i + k) 609 = -1) : zG Z l 5 mth_X16_of [.ref (Λ 1001), .int (nI i), .int (nI k), .int (115 : Int32)] M 0 0 (some (.int (sV S (1160 + 8 * i + k) 611))) ((zRp Z Λ (mT S 0))) := by
  intro Q hQ
  have hb1 : sc S 1000 ≤ 6 := hR.bnd.2.1.1
  show zX Z l 5 mth_X16_of 0 [(0, .ref (Λ 1001)), (1, .int (nI i)), (2, .int (nI k)), (3, .int (115 : Int32))] [] M 0 0 Q
  refine zs_aload_n (n := 1) dX16_of_0 rfl rfl ?_
  refine zs_iload_n (n := 2) dX16_of_1 rfl rfl ?_
  refine zs_iload_n (n := 3) dX16_of_2 rfl rfl ?_
  refine zs_ldcB (n := 6) dX16_of_3 rfl rfl ?_
  refine zs_iload_n (n := 7) dX16_of_6 rfl rfl ?_
  refine zc_indexOf (n := 10) dX16_of_7 ml_X16_309 (by simp) (by omega) rfl ?_
  refine zs_if_lt (tgt := 17) (n := 13) dX16_of_10 (by decide) rfl (fun h => absurd h (by decide +kernel)) (fun _ => ?_)
  refine zs_iconst (v := 1) (n := 14) dX16_of_13 (by decide) rfl ?_
  refine zs_goto (tgt := 18) dX16_of_14 (by decide) ?_
  refine zg_V (n := 21) (As := [.int (nI i), .int (nI k), .int (1 : Int32)]) (ci := 21) (mc := 0) (ms := 0) dX16_of_18 ok_X16_played ⟨ml_X16_314, im_X16_played, sl_X16_played⟩ rfl (hR.kd (lvM h4 (by omega))) rfl (Nat.le_of_ble_eq_true rfl) (by simp) (by omega) (Nat.le_refl _) (Nat.le_refl _) rfl rfl (k_played hR h4 hi hk (by decide) hp hbg) ?_
  intro M hR
  refine zs_astore (n := 23) dX16_of_21 (by decide) rfl ?_
  refine zs_aload (n := 25) dX16_of_23 rfl rfl ?_
  refine zs_ifnonnull (tgt := 30) dX16_of_25 (by decide) ?_
  refine zs_iload_n (n := 31) dX16_of_30 rfl rfl ?_
  refine zs_lookup (tgt := 98) dX16_of_31 (by decide) rfl (by decide) ?_
  refine zs_aload (n := 100) dX16_of_98 rfl rfl ?_
  refine zs_getv (x := (sV (mT S 0) (1160 + 8 * i + k) 611)) (n := 103) dX16_of_100 gf_X16_257 (hR.kK' hi hk) (hR.iv (lvK' hi hk) (by decide) (by decide)) rfl ?_
  refine zs_ireturn dX16_of_103 ⟨_, rfl, rfl⟩ ?_
  exact hQ _ hR
theorem k_of_c {i k : Nat} (hR : zRp Z Λ S M) (h4 : sc S 4 = 1) (hi : i < sc S 1000) (hk : k < sc S (1010 + i)) (hp : ¬ sV S 1001 680 = 0) (hbg : ¬ sV S (1160 + 8 * i + k) 609 = -1) : zG Z l 5 mth_X16_of [.ref (Λ 1001), .int (nI i), .int (nI k), .int (99 : Int32)] M 0 0 (some (.int (sV S (1160 + 8 * i + k) 613))) ((zRp Z Λ (mT S 0))) := by
  intro Q hQ
  have hb1 : sc S 1000 ≤ 6 := hR.bnd.2.1.1
  show zX Z l 5 mth_X16_of 0 [(0, .ref (Λ 1001)), (1, .int (nI i)), (2, .int (nI k)), (3, .int (99 : Int32))] [] M 0 0 Q
  refine zs_aload_n (n := 1) dX16_of_0 rfl rfl ?_
  refine zs_iload_n (n := 2) dX16_of_1 rfl rfl ?_
  refine zs_iload_n (n := 3) dX16_of_2 rfl rfl ?_
  refine zs_ldcB (n := 6) dX16_of_3 rfl rfl ?_
  refine zs_iload_n (n := 7) dX16_of_6 rfl rfl ?_
  refine zc_indexOf (n := 10) dX16_of_7 ml_X16_309 (by simp) (by omega) rfl ?_
  refine zs_if_lt (tgt := 17) (n := 13) dX16_of_10 (by decide) rfl (fun h => absurd h (by decide +kernel)) (fun _ => ?_)
  refine zs_iconst (v := 1) (n := 14) dX16_of_13 (by decide) rfl ?_
  refine zs_goto (tgt := 18) dX16_of_14 (by decide) ?_
  refine zg_V (n := 21) (As := [.int (nI i), .int (nI k), .int (1 : Int32)]) (ci := 21) (mc := 0) (ms := 0) dX16_of_18 ok_X16_played ⟨ml_X16_314, im_X16_played, sl_X16_played⟩ rfl (hR.kd (lvM h4 (by omega))) rfl (Nat.le_of_ble_eq_true rfl) (by simp) (by omega) (Nat.le_refl _) (Nat.le_refl _) rfl rfl (k_played hR h4 hi hk (by decide) hp hbg) ?_
  intro M hR
  refine zs_astore (n := 23) dX16_of_21 (by decide) rfl ?_
  refine zs_aload (n := 25) dX16_of_23 rfl rfl ?_
  refine zs_ifnonnull (tgt := 30) dX16_of_25 (by decide) ?_
  refine zs_iload_n (n := 31) dX16_of_30 rfl rfl ?_
  refine zs_lookup (tgt := 104) dX16_of_31 (by decide) rfl (by decide) ?_
  refine zs_aload (n := 106) dX16_of_104 rfl rfl ?_
  refine zs_getv (x := (sV (mT S 0) (1160 + 8 * i + k) 613)) (n := 109) dX16_of_106 gf_X16_266 (hR.kK' hi hk) (hR.iv (lvK' hi hk) (by decide) (by decide)) rfl ?_
  refine zs_ireturn dX16_of_109 ⟨_, rfl, rfl⟩ ?_
  exact hQ _ hR
theorem k_of_d {i k : Nat} (hR : zRp Z Λ S M) (h4 : sc S 4 = 1) (hi : i < sc S 1000) (hk : k < sc S (1010 + i)) (hp : ¬ sV S 1001 680 = 0) (hbg : ¬ sV S (1160 + 8 * i + k) 609 = -1) : zG Z l 5 mth_X16_of [.ref (Λ 1001), .int (nI i), .int (nI k), .int (100 : Int32)] M 0 0 (some (.int (sV S (1160 + 8 * i + k) 614))) ((zRp Z Λ (mT S 0))) := by
  intro Q hQ
  have hb1 : sc S 1000 ≤ 6 := hR.bnd.2.1.1
  show zX Z l 5 mth_X16_of 0 [(0, .ref (Λ 1001)), (1, .int (nI i)), (2, .int (nI k)), (3, .int (100 : Int32))] [] M 0 0 Q
  refine zs_aload_n (n := 1) dX16_of_0 rfl rfl ?_
  refine zs_iload_n (n := 2) dX16_of_1 rfl rfl ?_
  refine zs_iload_n (n := 3) dX16_of_2 rfl rfl ?_
  refine zs_ldcB (n := 6) dX16_of_3 rfl rfl ?_
  refine zs_iload_n (n := 7) dX16_of_6 rfl rfl ?_
  refine zc_indexOf (n := 10) dX16_of_7 ml_X16_309 (by simp) (by omega) rfl ?_
  refine zs_if_lt (tgt := 17) (n := 13) dX16_of_10 (by decide) rfl (fun h => absurd h (by decide +kernel)) (fun _ => ?_)
  refine zs_iconst (v := 1) (n := 14) dX16_of_13 (by decide) rfl ?_
  refine zs_goto (tgt := 18) dX16_of_14 (by decide) ?_
  refine zg_V (n := 21) (As := [.int (nI i), .int (nI k), .int (1 : Int32)]) (ci := 21) (mc := 0) (ms := 0) dX16_of_18 ok_X16_played ⟨ml_X16_314, im_X16_played, sl_X16_played⟩ rfl (hR.kd (lvM h4 (by omega))) rfl (Nat.le_of_ble_eq_true rfl) (by simp) (by omega) (Nat.le_refl _) (Nat.le_refl _) rfl rfl (k_played hR h4 hi hk (by decide) hp hbg) ?_
  intro M hR
  refine zs_astore (n := 23) dX16_of_21 (by decide) rfl ?_
  refine zs_aload (n := 25) dX16_of_23 rfl rfl ?_
  refine zs_ifnonnull (tgt := 30) dX16_of_25 (by decide) ?_
  refine zs_iload_n (n := 31) dX16_of_30 rfl rfl ?_
  refine zs_lookup (tgt := 110) dX16_of_31 (by decide) rfl (by decide) ?_
  refine zs_aload (n := 112) dX16_of_110 rfl rfl ?_
  refine zs_getv (x := (sV (mT S 0) (1160 + 8 * i + k) 614)) (n := 115) dX16_of_112 gf_X16_283 (hR.kK' hi hk) (hR.iv (lvK' hi hk) (by decide) (by decide)) rfl ?_
  refine zs_ireturn dX16_of_115 ⟨_, rfl, rfl⟩ ?_
  exact hQ _ hR
theorem k_isBroken_1 {p q : Int32} (hR : zRp Z Λ S M) (h4 : sc S 4 = 1) (hx9 : ¬ (¬ p < 0 ∧ ¬ nI (sc S 1000) ≤ p)) : zG Z l 5 mth_X16_isBroken [.ref (Λ 1001), .int p, .int q] M 0 0 (some (.int 0)) ((zRp Z Λ (mT (mT S 1) 1))) := by
  intro Q hQ
  have hb1 : sc S 1000 ≤ 6 := hR.bnd.2.1.1
  show zX Z l 5 mth_X16_isBroken 0 [(0, .ref (Λ 1001)), (1, .int p), (2, .int q)] [] M 0 0 Q
  refine zs_aload_n (n := 1) dX16_isBroken_0 rfl rfl ?_
  refine zs_iload_n (n := 2) dX16_isBroken_1 rfl rfl ?_
  refine zs_iload_n (n := 3) dX16_isBroken_2 rfl rfl ?_
  refine zs_iconst (v := 1) (n := 4) dX16_isBroken_3 (by decide) rfl ?_
  refine zg_V (n := 7) (As := [.int p, .int q, .int (1 : Int32)]) (ci := 21) (mc := 0) (ms := 0) dX16_isBroken_4 ok_X16_played ⟨ml_X16_314, im_X16_played, sl_X16_played⟩ rfl (hR.kd (lvM h4 (by omega))) rfl (Nat.le_of_ble_eq_true rfl) (by simp) (by omega) (Nat.le_refl _) (Nat.le_refl _) rfl rfl (k_played_1 hR h4 hx9) ?_
  intro M hR
  refine zs_astore_nN (n := 8) dX16_isBroken_7 (by decide) rfl ?_
  refine zs_aload_n (n := 9) dX16_isBroken_8 rfl rfl ?_
  refine zs_aload_n (n := 10) dX16_isBroken_9 rfl rfl ?_
  refine zs_getv (x := (sV (mT S 1) 1001 672)) (n := 13) dX16_isBroken_10 gf_X16_43 (hR.kd (lvM h4 (by omega))) (hR.iv (lvM h4 (by omega)) (by decide) (by decide)) rfl ?_
  rw [show sV (mT S 1) 1001 672 = 1 from (u2_at : u2 (sV S) 1001 672 1 1001 672 = 1)]
  refine zs_iconst (v := 1) (n := 14) dX16_isBroken_13 (by decide) rfl ?_
  refine zs_icmp_le (tgt := 26) (n := 17) dX16_isBroken_14 (by decide) rfl (fun _ => ?_) (fun h => absurd (by decide) h)
  refine zs_aload_n (n := 27) dX16_isBroken_26 rfl rfl ?_
  refine zs_getv (x := (sV (mT S 1) 1001 672)) (n := 30) dX16_isBroken_27 gf_X16_43 (hR.kd (lvM h4 (by omega))) (hR.iv (lvM h4 (by omega)) (by decide) (by decide)) rfl ?_
  rw [show sV (mT S 1) 1001 672 = 1 from (u2_at : u2 (sV S) 1001 672 1 1001 672 = 1)]
  refine zw_i (r := 1001) (n := 33) dX16_isBroken_30 pf_X16_isBroken_43 hR (lvM h4 (by omega)) (hR.kd (lvM h4 (by omega))) ⟨rfl, rfl⟩ (by decide) rfl ?_
  intro M hR hv
  refine zs_aload_nN (n := 34) dX16_isBroken_33 rfl rfl ?_
  refine zs_ifnullN (tgt := 48) dX16_isBroken_34 (by decide) ?_
  refine zs_iconst (v := 0) (n := 49) dX16_isBroken_48 (by decide) rfl ?_
  refine zs_ireturn dX16_isBroken_49 ⟨_, rfl, rfl⟩ ?_
  exact hQ _ hR
theorem k_isBroken_3o {i : Nat} {q : Int32} (hR : zRp Z Λ S M) (h4 : sc S 4 = 1) (hi : i < sc S 1000) (hx8 : ¬ (¬ q < 0 ∧ ¬ nI (sc S (1010 + i)) ≤ q)) (hp : sV S 1001 680 = 0) : zG Z l 5 mth_X16_isBroken [.ref (Λ 1001), .int (nI i), .int q] M 0 0 (some (.int 0)) ((zRp Z Λ (mT (mT S 3) 2))) := by
  intro Q hQ
  have hb1 : sc S 1000 ≤ 6 := hR.bnd.2.1.1
  show zX Z l 5 mth_X16_isBroken 0 [(0, .ref (Λ 1001)), (1, .int (nI i)), (2, .int q)] [] M 0 0 Q
  refine zs_aload_n (n := 1) dX16_isBroken_0 rfl rfl ?_
  refine zs_iload_n (n := 2) dX16_isBroken_1 rfl rfl ?_
  refine zs_iload_n (n := 3) dX16_isBroken_2 rfl rfl ?_
  refine zs_iconst (v := 1) (n := 4) dX16_isBroken_3 (by decide) rfl ?_
  refine zg_V (n := 7) (As := [.int (nI i), .int q, .int (1 : Int32)]) (ci := 21) (mc := 0) (ms := 0) dX16_isBroken_4 ok_X16_played ⟨ml_X16_314, im_X16_played, sl_X16_played⟩ rfl (hR.kd (lvM h4 (by omega))) rfl (Nat.le_of_ble_eq_true rfl) (by simp) (by omega) (Nat.le_refl _) (Nat.le_refl _) rfl rfl (k_played_3o hR h4 hi hx8 (by decide) hp) ?_
  intro M hR
  refine zs_astore_nN (n := 8) dX16_isBroken_7 (by decide) rfl ?_
  refine zs_aload_n (n := 9) dX16_isBroken_8 rfl rfl ?_
  refine zs_aload_n (n := 10) dX16_isBroken_9 rfl rfl ?_
  refine zs_getv (x := (sV (mT S 3) 1001 672)) (n := 13) dX16_isBroken_10 gf_X16_43 (hR.kd (lvM h4 (by omega))) (hR.iv (lvM h4 (by omega)) (by decide) (by decide)) rfl ?_
  rw [show sV (mT S 3) 1001 672 = 3 from (u2_at : u2 (sV S) 1001 672 3 1001 672 = 3)]
  refine zs_iconst (v := 1) (n := 14) dX16_isBroken_13 (by decide) rfl ?_
  refine zs_icmp_le (tgt := 26) (n := 17) dX16_isBroken_14 (by decide) rfl (fun h => absurd h (by decide)) (fun _ => ?_)
  refine zs_aload_n (n := 18) dX16_isBroken_17 rfl rfl ?_
  refine zs_getv (x := (sV (mT S 3) 1001 672)) (n := 21) dX16_isBroken_18 gf_X16_43 (hR.kd (lvM h4 (by omega))) (hR.iv (lvM h4 (by omega)) (by decide) (by decide)) rfl ?_
  rw [show sV (mT S 3) 1001 672 = 3 from (u2_at : u2 (sV S) 1001 672 3 1001 672 = 3)]
  refine zs_iconst (v := 1) (n := 22) dX16_isBroken_21 (by decide) rfl ?_
  refine zs_isub (n := 23) dX16_isBroken_22 rfl ?_
  refine zs_goto (tgt := 30) dX16_isBroken_23 (by decide) ?_
  rw [show (3 : Int32) - 1 = 2 from by decide]
  refine zw_i (r := 1001) (n := 33) dX16_isBroken_30 pf_X16_isBroken_43 hR (lvM h4 (by omega)) (hR.kd (lvM h4 (by omega))) ⟨rfl, rfl⟩ (by decide) rfl ?_
  intro M hR hv
  refine zs_aload_nN (n := 34) dX16_isBroken_33 rfl rfl ?_
  refine zs_ifnullN (tgt := 48) dX16_isBroken_34 (by decide) ?_
  refine zs_iconst (v := 0) (n := 49) dX16_isBroken_48 (by decide) rfl ?_
  refine zs_ireturn dX16_isBroken_49 ⟨_, rfl, rfl⟩ ?_
  exact hQ _ hR
theorem k_isBroken_3i {i k : Nat} (hR : zRp Z Λ S M) (h4 : sc S 4 = 1) (hi : i < sc S 1000) (hk : k < sc S (1010 + i)) (hp : sV S 1001 680 = 0) : zG Z l 5 mth_X16_isBroken [.ref (Λ 1001), .int (nI i), .int (nI k)] M 0 0 (some (.int 0)) ((zRp Z Λ (mT (mT S 3) 2))) := by
  intro Q hQ
  have hb1 : sc S 1000 ≤ 6 := hR.bnd.2.1.1
  show zX Z l 5 mth_X16_isBroken 0 [(0, .ref (Λ 1001)), (1, .int (nI i)), (2, .int (nI k))] [] M 0 0 Q
  refine zs_aload_n (n := 1) dX16_isBroken_0 rfl rfl ?_
  refine zs_iload_n (n := 2) dX16_isBroken_1 rfl rfl ?_
  refine zs_iload_n (n := 3) dX16_isBroken_2 rfl rfl ?_
  refine zs_iconst (v := 1) (n := 4) dX16_isBroken_3 (by decide) rfl ?_
  refine zg_V (n := 7) (As := [.int (nI i), .int (nI k), .int (1 : Int32)]) (ci := 21) (mc := 0) (ms := 0) dX16_isBroken_4 ok_X16_played ⟨ml_X16_314, im_X16_played, sl_X16_played⟩ rfl (hR.kd (lvM h4 (by omega))) rfl (Nat.le_of_ble_eq_true rfl) (by simp) (by omega) (Nat.le_refl _) (Nat.le_refl _) rfl rfl (k_played_3i hR h4 hi hk (by decide) hp) ?_
  intro M hR
  refine zs_astore_nN (n := 8) dX16_isBroken_7 (by decide) rfl ?_
  refine zs_aload_n (n := 9) dX16_isBroken_8 rfl rfl ?_
  refine zs_aload_n (n := 10) dX16_isBroken_9 rfl rfl ?_
  refine zs_getv (x := (sV (mT S 3) 1001 672)) (n := 13) dX16_isBroken_10 gf_X16_43 (hR.kd (lvM h4 (by omega))) (hR.iv (lvM h4 (by omega)) (by decide) (by decide)) rfl ?_
  rw [show sV (mT S 3) 1001 672 = 3 from (u2_at : u2 (sV S) 1001 672 3 1001 672 = 3)]
  refine zs_iconst (v := 1) (n := 14) dX16_isBroken_13 (by decide) rfl ?_
  refine zs_icmp_le (tgt := 26) (n := 17) dX16_isBroken_14 (by decide) rfl (fun h => absurd h (by decide)) (fun _ => ?_)
  refine zs_aload_n (n := 18) dX16_isBroken_17 rfl rfl ?_
  refine zs_getv (x := (sV (mT S 3) 1001 672)) (n := 21) dX16_isBroken_18 gf_X16_43 (hR.kd (lvM h4 (by omega))) (hR.iv (lvM h4 (by omega)) (by decide) (by decide)) rfl ?_
  rw [show sV (mT S 3) 1001 672 = 3 from (u2_at : u2 (sV S) 1001 672 3 1001 672 = 3)]
  refine zs_iconst (v := 1) (n := 22) dX16_isBroken_21 (by decide) rfl ?_
  refine zs_isub (n := 23) dX16_isBroken_22 rfl ?_
  refine zs_goto (tgt := 30) dX16_isBroken_23 (by decide) ?_
  rw [show (3 : Int32) - 1 = 2 from by decide]
  refine zw_i (r := 1001) (n := 33) dX16_isBroken_30 pf_X16_isBroken_43 hR (lvM h4 (by omega)) (hR.kd (lvM h4 (by omega))) ⟨rfl, rfl⟩ (by decide) rfl ?_
  intro M hR hv
  refine zs_aload_nN (n := 34) dX16_isBroken_33 rfl rfl ?_
  refine zs_ifnullN (tgt := 48) dX16_isBroken_34 (by decide) ?_
  refine zs_iconst (v := 0) (n := 49) dX16_isBroken_48 (by decide) rfl ?_
  refine zs_ireturn dX16_isBroken_49 ⟨_, rfl, rfl⟩ ?_
  exact hQ _ hR
theorem k_isBroken_4o {i : Nat} {q : Int32} (hR : zRp Z Λ S M) (h4 : sc S 4 = 1) (hi : i < sc S 1000) (hx8 : ¬ (¬ q < 0 ∧ ¬ nI (sc S (1010 + i)) ≤ q)) (hp : ¬ sV S 1001 680 = 0) : zG Z l 5 mth_X16_isBroken [.ref (Λ 1001), .int (nI i), .int q] M 0 0 (some (.int 0)) ((zRp Z Λ (mT (mT S 4) 3))) := by
  intro Q hQ
  have hb1 : sc S 1000 ≤ 6 := hR.bnd.2.1.1
  show zX Z l 5 mth_X16_isBroken 0 [(0, .ref (Λ 1001)), (1, .int (nI i)), (2, .int q)] [] M 0 0 Q
  refine zs_aload_n (n := 1) dX16_isBroken_0 rfl rfl ?_
  refine zs_iload_n (n := 2) dX16_isBroken_1 rfl rfl ?_
  refine zs_iload_n (n := 3) dX16_isBroken_2 rfl rfl ?_
  refine zs_iconst (v := 1) (n := 4) dX16_isBroken_3 (by decide) rfl ?_
  refine zg_V (n := 7) (As := [.int (nI i), .int q, .int (1 : Int32)]) (ci := 21) (mc := 0) (ms := 0) dX16_isBroken_4 ok_X16_played ⟨ml_X16_314, im_X16_played, sl_X16_played⟩ rfl (hR.kd (lvM h4 (by omega))) rfl (Nat.le_of_ble_eq_true rfl) (by simp) (by omega) (Nat.le_refl _) (Nat.le_refl _) rfl rfl (k_played_4o hR h4 hi hx8 (by decide) hp) ?_
  intro M hR
  refine zs_astore_nN (n := 8) dX16_isBroken_7 (by decide) rfl ?_
  refine zs_aload_n (n := 9) dX16_isBroken_8 rfl rfl ?_
  refine zs_aload_n (n := 10) dX16_isBroken_9 rfl rfl ?_
  refine zs_getv (x := (sV (mT S 4) 1001 672)) (n := 13) dX16_isBroken_10 gf_X16_43 (hR.kd (lvM h4 (by omega))) (hR.iv (lvM h4 (by omega)) (by decide) (by decide)) rfl ?_
  rw [show sV (mT S 4) 1001 672 = 4 from (u2_at : u2 (sV S) 1001 672 4 1001 672 = 4)]
  refine zs_iconst (v := 1) (n := 14) dX16_isBroken_13 (by decide) rfl ?_
  refine zs_icmp_le (tgt := 26) (n := 17) dX16_isBroken_14 (by decide) rfl (fun h => absurd h (by decide)) (fun _ => ?_)
  refine zs_aload_n (n := 18) dX16_isBroken_17 rfl rfl ?_
  refine zs_getv (x := (sV (mT S 4) 1001 672)) (n := 21) dX16_isBroken_18 gf_X16_43 (hR.kd (lvM h4 (by omega))) (hR.iv (lvM h4 (by omega)) (by decide) (by decide)) rfl ?_
  rw [show sV (mT S 4) 1001 672 = 4 from (u2_at : u2 (sV S) 1001 672 4 1001 672 = 4)]
  refine zs_iconst (v := 1) (n := 22) dX16_isBroken_21 (by decide) rfl ?_
  refine zs_isub (n := 23) dX16_isBroken_22 rfl ?_
  refine zs_goto (tgt := 30) dX16_isBroken_23 (by decide) ?_
  rw [show (4 : Int32) - 1 = 3 from by decide]
  refine zw_i (r := 1001) (n := 33) dX16_isBroken_30 pf_X16_isBroken_43 hR (lvM h4 (by omega)) (hR.kd (lvM h4 (by omega))) ⟨rfl, rfl⟩ (by decide) rfl ?_
  intro M hR hv
  refine zs_aload_nN (n := 34) dX16_isBroken_33 rfl rfl ?_
  refine zs_ifnullN (tgt := 48) dX16_isBroken_34 (by decide) ?_
  refine zs_iconst (v := 0) (n := 49) dX16_isBroken_48 (by decide) rfl ?_
  refine zs_ireturn dX16_isBroken_49 ⟨_, rfl, rfl⟩ ?_
  exact hQ _ hR
theorem k_isBroken_4i {i k : Nat} (hR : zRp Z Λ S M) (h4 : sc S 4 = 1) (hi : i < sc S 1000) (hk : k < sc S (1010 + i)) (hp : ¬ sV S 1001 680 = 0) (hbg : sV S (1160 + 8 * i + k) 609 = -1) : zG Z l 5 mth_X16_isBroken [.ref (Λ 1001), .int (nI i), .int (nI k)] M 0 0 (some (.int 0)) ((zRp Z Λ (mT (mT S 4) 3))) := by
  intro Q hQ
  have hb1 : sc S 1000 ≤ 6 := hR.bnd.2.1.1
  show zX Z l 5 mth_X16_isBroken 0 [(0, .ref (Λ 1001)), (1, .int (nI i)), (2, .int (nI k))] [] M 0 0 Q
  refine zs_aload_n (n := 1) dX16_isBroken_0 rfl rfl ?_
  refine zs_iload_n (n := 2) dX16_isBroken_1 rfl rfl ?_
  refine zs_iload_n (n := 3) dX16_isBroken_2 rfl rfl ?_
  refine zs_iconst (v := 1) (n := 4) dX16_isBroken_3 (by decide) rfl ?_
  refine zg_V (n := 7) (As := [.int (nI i), .int (nI k), .int (1 : Int32)]) (ci := 21) (mc := 0) (ms := 0) dX16_isBroken_4 ok_X16_played ⟨ml_X16_314, im_X16_played, sl_X16_played⟩ rfl (hR.kd (lvM h4 (by omega))) rfl (Nat.le_of_ble_eq_true rfl) (by simp) (by omega) (Nat.le_refl _) (Nat.le_refl _) rfl rfl (k_played_4i hR h4 hi hk (by decide) hp hbg) ?_
  intro M hR
  refine zs_astore_nN (n := 8) dX16_isBroken_7 (by decide) rfl ?_
  refine zs_aload_n (n := 9) dX16_isBroken_8 rfl rfl ?_
  refine zs_aload_n (n := 10) dX16_isBroken_9 rfl rfl ?_
  refine zs_getv (x := (sV (mT S 4) 1001 672)) (n := 13) dX16_isBroken_10 gf_X16_43 (hR.kd (lvM h4 (by omega))) (hR.iv (lvM h4 (by omega)) (by decide) (by decide)) rfl ?_
  rw [show sV (mT S 4) 1001 672 = 4 from (u2_at : u2 (sV S) 1001 672 4 1001 672 = 4)]
  refine zs_iconst (v := 1) (n := 14) dX16_isBroken_13 (by decide) rfl ?_
  refine zs_icmp_le (tgt := 26) (n := 17) dX16_isBroken_14 (by decide) rfl (fun h => absurd h (by decide)) (fun _ => ?_)
  refine zs_aload_n (n := 18) dX16_isBroken_17 rfl rfl ?_
  refine zs_getv (x := (sV (mT S 4) 1001 672)) (n := 21) dX16_isBroken_18 gf_X16_43 (hR.kd (lvM h4 (by omega))) (hR.iv (lvM h4 (by omega)) (by decide) (by decide)) rfl ?_
  rw [show sV (mT S 4) 1001 672 = 4 from (u2_at : u2 (sV S) 1001 672 4 1001 672 = 4)]
  refine zs_iconst (v := 1) (n := 22) dX16_isBroken_21 (by decide) rfl ?_
  refine zs_isub (n := 23) dX16_isBroken_22 rfl ?_
  refine zs_goto (tgt := 30) dX16_isBroken_23 (by decide) ?_
  rw [show (4 : Int32) - 1 = 3 from by decide]
  refine zw_i (r := 1001) (n := 33) dX16_isBroken_30 pf_X16_isBroken_43 hR (lvM h4 (by omega)) (hR.kd (lvM h4 (by omega))) ⟨rfl, rfl⟩ (by decide) rfl ?_
  intro M hR hv
  refine zs_aload_nN (n := 34) dX16_isBroken_33 rfl rfl ?_
  refine zs_ifnullN (tgt := 48) dX16_isBroken_34 (by decide) ?_
  refine zs_iconst (v := 0) (n := 49) dX16_isBroken_48 (by decide) rfl ?_
  refine zs_ireturn dX16_isBroken_49 ⟨_, rfl, rfl⟩ ?_
  exact hQ _ hR
theorem k_isBroken_y {i k : Nat} (hR : zRp Z Λ S M) (h4 : sc S 4 = 1) (hi : i < sc S 1000) (hk : k < sc S (1010 + i)) (hp : ¬ sV S 1001 680 = 0) (hbg : ¬ sV S (1160 + 8 * i + k) 609 = -1) (h5 : ¬ sV S (1160 + 8 * i + k) 615 = 0) : zG Z l 5 mth_X16_isBroken [.ref (Λ 1001), .int (nI i), .int (nI k)] M 0 0 (some (.int 1)) ((zRp Z Λ (mT (mT S 0) 0))) := by
  intro Q hQ
  have hb1 : sc S 1000 ≤ 6 := hR.bnd.2.1.1
  show zX Z l 5 mth_X16_isBroken 0 [(0, .ref (Λ 1001)), (1, .int (nI i)), (2, .int (nI k))] [] M 0 0 Q
  refine zs_aload_n (n := 1) dX16_isBroken_0 rfl rfl ?_
  refine zs_iload_n (n := 2) dX16_isBroken_1 rfl rfl ?_
  refine zs_iload_n (n := 3) dX16_isBroken_2 rfl rfl ?_
  refine zs_iconst (v := 1) (n := 4) dX16_isBroken_3 (by decide) rfl ?_
  refine zg_V (n := 7) (As := [.int (nI i), .int (nI k), .int (1 : Int32)]) (ci := 21) (mc := 0) (ms := 0) dX16_isBroken_4 ok_X16_played ⟨ml_X16_314, im_X16_played, sl_X16_played⟩ rfl (hR.kd (lvM h4 (by omega))) rfl (Nat.le_of_ble_eq_true rfl) (by simp) (by omega) (Nat.le_refl _) (Nat.le_refl _) rfl rfl (k_played hR h4 hi hk (by decide) hp hbg) ?_
  intro M hR
  refine zs_astore_n (n := 8) dX16_isBroken_7 (by decide) rfl ?_
  refine zs_aload_n (n := 9) dX16_isBroken_8 rfl rfl ?_
  refine zs_aload_n (n := 10) dX16_isBroken_9 rfl rfl ?_
  refine zs_getv (x := (sV (mT S 0) 1001 672)) (n := 13) dX16_isBroken_10 gf_X16_43 (hR.kd (lvM h4 (by omega))) (hR.iv (lvM h4 (by omega)) (by decide) (by decide)) rfl ?_
  rw [show sV (mT S 0) 1001 672 = 0 from (u2_at : u2 (sV S) 1001 672 0 1001 672 = 0)]
  refine zs_iconst (v := 1) (n := 14) dX16_isBroken_13 (by decide) rfl ?_
  refine zs_icmp_le (tgt := 26) (n := 17) dX16_isBroken_14 (by decide) rfl (fun _ => ?_) (fun h => absurd (by decide) h)
  refine zs_aload_n (n := 27) dX16_isBroken_26 rfl rfl ?_
  refine zs_getv (x := (sV (mT S 0) 1001 672)) (n := 30) dX16_isBroken_27 gf_X16_43 (hR.kd (lvM h4 (by omega))) (hR.iv (lvM h4 (by omega)) (by decide) (by decide)) rfl ?_
  rw [show sV (mT S 0) 1001 672 = 0 from (u2_at : u2 (sV S) 1001 672 0 1001 672 = 0)]
  refine zw_i (r := 1001) (n := 33) dX16_isBroken_30 pf_X16_isBroken_43 hR (lvM h4 (by omega)) (hR.kd (lvM h4 (by omega))) ⟨rfl, rfl⟩ (by decide) rfl ?_
  intro M hR hv
  refine zs_aload_n (n := 34) dX16_isBroken_33 rfl rfl ?_
  refine zs_ifnull (n := 37) dX16_isBroken_34 rfl ?_
  refine zs_aload_n (n := 38) dX16_isBroken_37 rfl rfl ?_
  refine zs_getv (x := (sV (mT S 0) (1160 + 8 * i + k) 615)) (n := 41) dX16_isBroken_38 gf_X16_286 (hR.kK' hi hk) (hR.iv (lvK' hi hk) (by decide) (by decide)) rfl ?_
  refine zs_if_eq (tgt := 48) (n := 44) dX16_isBroken_41 (by decide) rfl (fun h => absurd h h5) (fun _ => ?_)
  refine zs_iconst (v := 1) (n := 45) dX16_isBroken_44 (by decide) rfl ?_
  refine zs_goto (tgt := 49) dX16_isBroken_45 (by decide) ?_
  refine zs_ireturn dX16_isBroken_49 ⟨_, rfl, rfl⟩ ?_
  exact hQ _ hR
theorem k_isBroken_n {i k : Nat} (hR : zRp Z Λ S M) (h4 : sc S 4 = 1) (hi : i < sc S 1000) (hk : k < sc S (1010 + i)) (hp : ¬ sV S 1001 680 = 0) (hbg : ¬ sV S (1160 + 8 * i + k) 609 = -1) (h5 : sV S (1160 + 8 * i + k) 615 = 0) : zG Z l 5 mth_X16_isBroken [.ref (Λ 1001), .int (nI i), .int (nI k)] M 0 0 (some (.int 0)) ((zRp Z Λ (mT (mT S 0) 0))) := by
  intro Q hQ
  have hb1 : sc S 1000 ≤ 6 := hR.bnd.2.1.1
  show zX Z l 5 mth_X16_isBroken 0 [(0, .ref (Λ 1001)), (1, .int (nI i)), (2, .int (nI k))] [] M 0 0 Q
  refine zs_aload_n (n := 1) dX16_isBroken_0 rfl rfl ?_
  refine zs_iload_n (n := 2) dX16_isBroken_1 rfl rfl ?_
  refine zs_iload_n (n := 3) dX16_isBroken_2 rfl rfl ?_
  refine zs_iconst (v := 1) (n := 4) dX16_isBroken_3 (by decide) rfl ?_
  refine zg_V (n := 7) (As := [.int (nI i), .int (nI k), .int (1 : Int32)]) (ci := 21) (mc := 0) (ms := 0) dX16_isBroken_4 ok_X16_played ⟨ml_X16_314, im_X16_played, sl_X16_played⟩ rfl (hR.kd (lvM h4 (by omega))) rfl (Nat.le_of_ble_eq_true rfl) (by simp) (by omega) (Nat.le_refl _) (Nat.le_refl _) rfl rfl (k_played hR h4 hi hk (by decide) hp hbg) ?_
  intro M hR
  refine zs_astore_n (n := 8) dX16_isBroken_7 (by decide) rfl ?_
  refine zs_aload_n (n := 9) dX16_isBroken_8 rfl rfl ?_
  refine zs_aload_n (n := 10) dX16_isBroken_9 rfl rfl ?_
  refine zs_getv (x := (sV (mT S 0) 1001 672)) (n := 13) dX16_isBroken_10 gf_X16_43 (hR.kd (lvM h4 (by omega))) (hR.iv (lvM h4 (by omega)) (by decide) (by decide)) rfl ?_
  rw [show sV (mT S 0) 1001 672 = 0 from (u2_at : u2 (sV S) 1001 672 0 1001 672 = 0)]
  refine zs_iconst (v := 1) (n := 14) dX16_isBroken_13 (by decide) rfl ?_
  refine zs_icmp_le (tgt := 26) (n := 17) dX16_isBroken_14 (by decide) rfl (fun _ => ?_) (fun h => absurd (by decide) h)
  refine zs_aload_n (n := 27) dX16_isBroken_26 rfl rfl ?_
  refine zs_getv (x := (sV (mT S 0) 1001 672)) (n := 30) dX16_isBroken_27 gf_X16_43 (hR.kd (lvM h4 (by omega))) (hR.iv (lvM h4 (by omega)) (by decide) (by decide)) rfl ?_
  rw [show sV (mT S 0) 1001 672 = 0 from (u2_at : u2 (sV S) 1001 672 0 1001 672 = 0)]
  refine zw_i (r := 1001) (n := 33) dX16_isBroken_30 pf_X16_isBroken_43 hR (lvM h4 (by omega)) (hR.kd (lvM h4 (by omega))) ⟨rfl, rfl⟩ (by decide) rfl ?_
  intro M hR hv
  refine zs_aload_n (n := 34) dX16_isBroken_33 rfl rfl ?_
  refine zs_ifnull (n := 37) dX16_isBroken_34 rfl ?_
  refine zs_aload_n (n := 38) dX16_isBroken_37 rfl rfl ?_
  refine zs_getv (x := (sV (mT S 0) (1160 + 8 * i + k) 615)) (n := 41) dX16_isBroken_38 gf_X16_286 (hR.kK' hi hk) (hR.iv (lvK' hi hk) (by decide) (by decide)) rfl ?_
  refine zs_if_eq (tgt := 48) (n := 44) dX16_isBroken_41 (by decide) rfl (fun _ => ?_) (fun h => absurd h5 h)
  refine zs_iconst (v := 0) (n := 49) dX16_isBroken_48 (by decide) rfl ?_
  refine zs_ireturn dX16_isBroken_49 ⟨_, rfl, rfl⟩ ?_
  exact hQ _ hR
end ZMOD9
