/-! FACE, on -/
section ZFACE2
variable {Z : zPar} {l : Launch} {Λ : Nat → Nat} {S : zSt} {M : zMem}
theorem f_setPassers_0 {p q r : Int32} (hR : zRp Z Λ S M) (h3 : sc S 3 = 1) (hx9 : ¬ (¬ p < 0 ∧ ¬ nI (sc S 0) ≤ p)) : zTw Z l 3 mth_X11_setPassers [.ref (Λ 1), .int p, .int q, .int r] M 1 6 2 M := by
  intro Q hQ
  have hb0 := hR.bnd.1.1
  have hb1 := hR.bnd.1.2.1
  have hb2 := hR.bnd.1.2.2.1
  show zX Z l 3 mth_X11_setPassers 0 [(0, .ref (Λ 1)), (1, .int p), (2, .int q), (3, .int r)] [] M 1 6 Q
  refine zs_aload_n (n := 1) dX11_setPassers_0 rfl rfl ?_
  refine zs_iload_n (n := 2) dX11_setPassers_1 rfl rfl ?_
  exact zt_V (As := [.int p]) (ci := 16) (mc := 1) (ms := 6) (nc1 := 0) (ns1 := 0) dX11_setPassers_2 ok_X11_requirePitch ⟨ml_X11_99, im_X11_requirePitch, sl_X11_requirePitch⟩ rfl (hR.kd (lvC h3 (by omega))) rfl (Nat.le_of_ble_eq_true rfl) (by simp) (by omega) (Nat.le_refl _) (Nat.le_refl _) rfl (t_requirePitch hR h3 hx9) (Or.inl ⟨rfl, hQ⟩)
theorem f_setPassers_1 {i : Nat} {q r : Int32} (hR : zRp Z Λ S M) (h3 : sc S 3 = 1) (hi : i < sc S 0) (hx9 : q < 10 ∨ ¬ q ≤ 19) : zTw Z l 3 mth_X11_setPassers [.ref (Λ 1), .int (nI i), .int q, .int r] M 1 6 0 M := by
  intro Q hQ
  have hb0 := hR.bnd.1.1
  have hb1 := hR.bnd.1.2.1
  have hb2 := hR.bnd.1.2.2.1
  show zX Z l 3 mth_X11_setPassers 0 [(0, .ref (Λ 1)), (1, .int (nI i)), (2, .int q), (3, .int r)] [] M 1 6 Q
  refine zs_aload_n (n := 1) dX11_setPassers_0 rfl rfl ?_
  refine zs_iload_n (n := 2) dX11_setPassers_1 rfl rfl ?_
  refine zc_V (n := 5) (As := [.int (nI i)]) (ci := 16) (mc := 0) (ms := 0) dX11_setPassers_2 ok_X11_requirePitch ⟨ml_X11_99, im_X11_requirePitch, sl_X11_requirePitch⟩ rfl (hR.kd (lvC h3 (by omega))) rfl (Nat.le_of_ble_eq_true rfl) (by simp) (by omega) (Nat.le_refl _) (Nat.le_refl _) rfl rfl (c_requirePitch hR h3 hi) ?_
  refine zs_iload_n (n := 6) dX11_setPassers_5 rfl rfl ?_
  refine zs_bipush (v := 10) (n := 8) dX11_setPassers_6 (by decide) rfl ?_
  refine zs_bipush (v := 19) (n := 10) dX11_setPassers_8 (by decide) rfl ?_
  exact zt_S (As := [.int q, .int (10 : Int32), .int (19 : Int32)]) (mc := 1) (ms := 6) (nc1 := 0) (ns1 := 0) dX11_setPassers_10 ok_X11_requireRange ⟨ml_X11_60, st_X11_requireRange⟩ rfl (Nat.le_of_ble_eq_true rfl) (by simp) (by omega) (Nat.le_refl _) (Nat.le_refl _) rfl (t_requireRange hx9) (Or.inl ⟨rfl, hQ⟩)
theorem f_setPassers_2 {i : Nat} {q r : Int32} (hR : zRp Z Λ S M) (h3 : sc S 3 = 1) (hi : i < sc S 0) (g1 : ¬ q < 10) (g2 : q ≤ 19) (hx9 : r < 0 ∨ ¬ r ≤ 600) : zTw Z l 3 mth_X11_setPassers [.ref (Λ 1), .int (nI i), .int q, .int r] M 1 6 0 M := by
  intro Q hQ
  have hb0 := hR.bnd.1.1
  have hb1 := hR.bnd.1.2.1
  have hb2 := hR.bnd.1.2.2.1
  show zX Z l 3 mth_X11_setPassers 0 [(0, .ref (Λ 1)), (1, .int (nI i)), (2, .int q), (3, .int r)] [] M 1 6 Q
  refine zs_aload_n (n := 1) dX11_setPassers_0 rfl rfl ?_
  refine zs_iload_n (n := 2) dX11_setPassers_1 rfl rfl ?_
  refine zc_V (n := 5) (As := [.int (nI i)]) (ci := 16) (mc := 0) (ms := 0) dX11_setPassers_2 ok_X11_requirePitch ⟨ml_X11_99, im_X11_requirePitch, sl_X11_requirePitch⟩ rfl (hR.kd (lvC h3 (by omega))) rfl (Nat.le_of_ble_eq_true rfl) (by simp) (by omega) (Nat.le_refl _) (Nat.le_refl _) rfl rfl (c_requirePitch hR h3 hi) ?_
  refine zs_iload_n (n := 6) dX11_setPassers_5 rfl rfl ?_
  refine zs_bipush (v := 10) (n := 8) dX11_setPassers_6 (by decide) rfl ?_
  refine zs_bipush (v := 19) (n := 10) dX11_setPassers_8 (by decide) rfl ?_
  refine zc_S (n := 13) (As := [.int q, .int (10 : Int32), .int (19 : Int32)]) (mc := 0) (ms := 0) dX11_setPassers_10 ok_X11_requireRange ⟨ml_X11_60, st_X11_requireRange⟩ rfl (Nat.le_of_ble_eq_true rfl) (by simp) (by omega) (Nat.le_refl _) (Nat.le_refl _) rfl rfl (c_requireRange (by assumption) (by assumption)) ?_
  refine zs_iload_n (n := 14) dX11_setPassers_13 rfl rfl ?_
  refine zs_iconst (v := 0) (n := 15) dX11_setPassers_14 (by decide) rfl ?_
  refine zs_sipush (v := 600) (n := 18) dX11_setPassers_15 (by decide) rfl ?_
  exact zt_S (As := [.int r, .int (0 : Int32), .int (600 : Int32)]) (mc := 1) (ms := 6) (nc1 := 0) (ns1 := 0) dX11_setPassers_18 ok_X11_requireRange ⟨ml_X11_60, st_X11_requireRange⟩ rfl (Nat.le_of_ble_eq_true rfl) (by simp) (by omega) (Nat.le_refl _) (Nat.le_refl _) rfl (t_requireRange hx9) (Or.inl ⟨rfl, hQ⟩)
theorem f_passersAt_0 {p q : Int32} (hR : zRp Z Λ S M) (h3 : sc S 3 = 1) (hx9 : ¬ (¬ p < 0 ∧ ¬ nI (sc S 0) ≤ p)) : zTw Z l 3 mth_X11_passersAt [.ref (Λ 1), .int p, .int q] M 1 6 2 M := by
  intro Q hQ
  have hb0 := hR.bnd.1.1
  have hb1 := hR.bnd.1.2.1
  have hb2 := hR.bnd.1.2.2.1
  show zX Z l 3 mth_X11_passersAt 0 [(0, .ref (Λ 1)), (1, .int p), (2, .int q)] [] M 1 6 Q
  refine zs_aload_n (n := 1) dX11_passersAt_0 rfl rfl ?_
  refine zs_iload_n (n := 2) dX11_passersAt_1 rfl rfl ?_
  exact zt_V (As := [.int p]) (ci := 16) (mc := 1) (ms := 6) (nc1 := 0) (ns1 := 0) dX11_passersAt_2 ok_X11_requirePitch ⟨ml_X11_99, im_X11_requirePitch, sl_X11_requirePitch⟩ rfl (hR.kd (lvC h3 (by omega))) rfl (Nat.le_of_ble_eq_true rfl) (by simp) (by omega) (Nat.le_refl _) (Nat.le_refl _) rfl (t_requirePitch hR h3 hx9) (Or.inl ⟨rfl, hQ⟩)
theorem f_passersAt_1 {i : Nat} {q : Int32} (hR : zRp Z Λ S M) (h3 : sc S 3 = 1) (hi : i < sc S 0) (hx9 : q < 600 ∨ ¬ q ≤ 1199) : zTw Z l 3 mth_X11_passersAt [.ref (Λ 1), .int (nI i), .int q] M 1 6 0 M := by
  intro Q hQ
  have hb0 := hR.bnd.1.1
  have hb1 := hR.bnd.1.2.1
  have hb2 := hR.bnd.1.2.2.1
  show zX Z l 3 mth_X11_passersAt 0 [(0, .ref (Λ 1)), (1, .int (nI i)), (2, .int q)] [] M 1 6 Q
  refine zs_aload_n (n := 1) dX11_passersAt_0 rfl rfl ?_
  refine zs_iload_n (n := 2) dX11_passersAt_1 rfl rfl ?_
  refine zc_V (n := 5) (As := [.int (nI i)]) (ci := 16) (mc := 0) (ms := 0) dX11_passersAt_2 ok_X11_requirePitch ⟨ml_X11_99, im_X11_requirePitch, sl_X11_requirePitch⟩ rfl (hR.kd (lvC h3 (by omega))) rfl (Nat.le_of_ble_eq_true rfl) (by simp) (by omega) (Nat.le_refl _) (Nat.le_refl _) rfl rfl (c_requirePitch hR h3 hi) ?_
  refine zs_iload_n (n := 6) dX11_passersAt_5 rfl rfl ?_
  refine zs_sipush (v := 600) (n := 9) dX11_passersAt_6 (by decide) rfl ?_
  refine zs_sipush (v := 1199) (n := 12) dX11_passersAt_9 (by decide) rfl ?_
  exact zt_S (As := [.int q, .int (600 : Int32), .int (1199 : Int32)]) (mc := 1) (ms := 6) (nc1 := 0) (ns1 := 0) dX11_passersAt_12 ok_X11_requireRange ⟨ml_X11_60, st_X11_requireRange⟩ rfl (Nat.le_of_ble_eq_true rfl) (by simp) (by omega) (Nat.le_refl _) (Nat.le_refl _) rfl (t_requireRange hx9) (Or.inl ⟨rfl, hQ⟩)
theorem f_setLine_0 {p q : Int32} (hR : zRp Z Λ S M) (h3 : sc S 3 = 1) (hx9 : ¬ (¬ p < 0 ∧ ¬ nI (sc S 1) ≤ p)) : zTw Z l 3 mth_X11_setLine [.ref (Λ 1), .int p, .int q] M 1 6 2 M := by
  intro Q hQ
  have hb0 := hR.bnd.1.1
  have hb1 := hR.bnd.1.2.1
  have hb2 := hR.bnd.1.2.2.1
  show zX Z l 3 mth_X11_setLine 0 [(0, .ref (Λ 1)), (1, .int p), (2, .int q)] [] M 1 6 Q
  refine zs_aload_n (n := 1) dX11_setLine_0 rfl rfl ?_
  refine zs_iload_n (n := 2) dX11_setLine_1 rfl rfl ?_
  exact zt_V (As := [.int p]) (ci := 16) (mc := 1) (ms := 6) (nc1 := 0) (ns1 := 0) dX11_setLine_2 ok_X11_requireAct ⟨ml_X11_125, im_X11_requireAct, sl_X11_requireAct⟩ rfl (hR.kd (lvC h3 (by omega))) rfl (Nat.le_of_ble_eq_true rfl) (by simp) (by omega) (Nat.le_refl _) (Nat.le_refl _) rfl (t_requireAct hR h3 hx9) (Or.inl ⟨rfl, hQ⟩)
theorem f_setLine_1 {i : Nat} {q : Int32} (hR : zRp Z Λ S M) (h3 : sc S 3 = 1) (hi : i < sc S 1) (hx9 : q < 1 ∨ ¬ q ≤ 9) : zTw Z l 3 mth_X11_setLine [.ref (Λ 1), .int (nI i), .int q] M 1 6 0 M := by
  intro Q hQ
  have hb0 := hR.bnd.1.1
  have hb1 := hR.bnd.1.2.1
  have hb2 := hR.bnd.1.2.2.1
  show zX Z l 3 mth_X11_setLine 0 [(0, .ref (Λ 1)), (1, .int (nI i)), (2, .int q)] [] M 1 6 Q
  refine zs_aload_n (n := 1) dX11_setLine_0 rfl rfl ?_
  refine zs_iload_n (n := 2) dX11_setLine_1 rfl rfl ?_
  refine zc_V (n := 5) (As := [.int (nI i)]) (ci := 16) (mc := 0) (ms := 0) dX11_setLine_2 ok_X11_requireAct ⟨ml_X11_125, im_X11_requireAct, sl_X11_requireAct⟩ rfl (hR.kd (lvC h3 (by omega))) rfl (Nat.le_of_ble_eq_true rfl) (by simp) (by omega) (Nat.le_refl _) (Nat.le_refl _) rfl rfl (c_requireAct hR h3 hi) ?_
  refine zs_iload_n (n := 6) dX11_setLine_5 rfl rfl ?_
  refine zs_iconst (v := 1) (n := 7) dX11_setLine_6 (by decide) rfl ?_
  refine zs_bipush (v := 9) (n := 9) dX11_setLine_7 (by decide) rfl ?_
  exact zt_S (As := [.int q, .int (1 : Int32), .int (9 : Int32)]) (mc := 1) (ms := 6) (nc1 := 0) (ns1 := 0) dX11_setLine_9 ok_X11_requireRange ⟨ml_X11_60, st_X11_requireRange⟩ rfl (Nat.le_of_ble_eq_true rfl) (by simp) (by omega) (Nat.le_refl _) (Nat.le_refl _) rfl (t_requireRange hx9) (Or.inl ⟨rfl, hQ⟩)
theorem f_setPermit_0 {p q : Int32} (hR : zRp Z Λ S M) (h3 : sc S 3 = 1) (hx9 : ¬ (¬ p < 0 ∧ ¬ nI (sc S 1) ≤ p)) : zTw Z l 3 mth_X11_setPermit [.ref (Λ 1), .int p, .int q] M 1 6 2 M := by
  intro Q hQ
  have hb0 := hR.bnd.1.1
  have hb1 := hR.bnd.1.2.1
  have hb2 := hR.bnd.1.2.2.1
  show zX Z l 3 mth_X11_setPermit 0 [(0, .ref (Λ 1)), (1, .int p), (2, .int q)] [] M 1 6 Q
  refine zs_aload_n (n := 1) dX11_setPermit_0 rfl rfl ?_
  refine zs_iload_n (n := 2) dX11_setPermit_1 rfl rfl ?_
  exact zt_V (As := [.int p]) (ci := 16) (mc := 1) (ms := 6) (nc1 := 0) (ns1 := 0) dX11_setPermit_2 ok_X11_requireAct ⟨ml_X11_125, im_X11_requireAct, sl_X11_requireAct⟩ rfl (hR.kd (lvC h3 (by omega))) rfl (Nat.le_of_ble_eq_true rfl) (by simp) (by omega) (Nat.le_refl _) (Nat.le_refl _) rfl (t_requireAct hR h3 hx9) (Or.inl ⟨rfl, hQ⟩)
theorem f_seed_0 {p : Int32} (hR : zRp Z Λ S M) (h3 : sc S 3 = 1) (hx9 : p < 1 ∨ ¬ p ≤ 2147483646) : zTw Z l 3 mth_X11_seed [.ref (Λ 1), .int p] M 1 6 0 M := by
  intro Q hQ
  have hb0 := hR.bnd.1.1
  have hb1 := hR.bnd.1.2.1
  have hb2 := hR.bnd.1.2.2.1
  show zX Z l 3 mth_X11_seed 0 [(0, .ref (Λ 1)), (1, .int p)] [] M 1 6 Q
  refine zs_iload_n (n := 1) dX11_seed_0 rfl rfl ?_
  refine zs_iconst (v := 1) (n := 2) dX11_seed_1 (by decide) rfl ?_
  refine zs_ldc (n := 4) dX11_seed_2 ct_X11_183 rfl ?_
  exact zt_S (As := [.int p, .int (1 : Int32), .int (2147483646 : Int32)]) (mc := 1) (ms := 6) (nc1 := 0) (ns1 := 0) dX11_seed_4 ok_X11_requireRange ⟨ml_X11_60, st_X11_requireRange⟩ rfl (Nat.le_of_ble_eq_true rfl) (by simp) (by omega) (Nat.le_refl _) (Nat.le_refl _) rfl (t_requireRange hx9) (Or.inl ⟨rfl, hQ⟩)
theorem f_setRain_0 {p q : Int32} (hR : zRp Z Λ S M) (h3 : sc S 3 = 1) (hx9 : p < 600 ∨ ¬ p ≤ 1199) : zTw Z l 3 mth_X11_setRain [.ref (Λ 1), .int p, .int q] M 1 6 0 M := by
  intro Q hQ
  have hb0 := hR.bnd.1.1
  have hb1 := hR.bnd.1.2.1
  have hb2 := hR.bnd.1.2.2.1
  show zX Z l 3 mth_X11_setRain 0 [(0, .ref (Λ 1)), (1, .int p), (2, .int q)] [] M 1 6 Q
  refine zs_iload_n (n := 1) dX11_setRain_0 rfl rfl ?_
  refine zs_sipush (v := 600) (n := 4) dX11_setRain_1 (by decide) rfl ?_
  refine zs_sipush (v := 1199) (n := 7) dX11_setRain_4 (by decide) rfl ?_
  exact zt_S (As := [.int p, .int (600 : Int32), .int (1199 : Int32)]) (mc := 1) (ms := 6) (nc1 := 0) (ns1 := 0) dX11_setRain_7 ok_X11_requireRange ⟨ml_X11_60, st_X11_requireRange⟩ rfl (Nat.le_of_ble_eq_true rfl) (by simp) (by omega) (Nat.le_refl _) (Nat.le_refl _) rfl (t_requireRange hx9) (Or.inl ⟨rfl, hQ⟩)
theorem f_setRain_1 {p q : Int32} (hR : zRp Z Λ S M) (h3 : sc S 3 = 1) (g1 : ¬ p < 600) (g2 : p ≤ 1199) (hx9 : q < p ∨ ¬ q ≤ 1199) : zTw Z l 3 mth_X11_setRain [.ref (Λ 1), .int p, .int q] M 1 6 0 M := by
  intro Q hQ
  have hb0 := hR.bnd.1.1
  have hb1 := hR.bnd.1.2.1
  have hb2 := hR.bnd.1.2.2.1
  show zX Z l 3 mth_X11_setRain 0 [(0, .ref (Λ 1)), (1, .int p), (2, .int q)] [] M 1 6 Q
  refine zs_iload_n (n := 1) dX11_setRain_0 rfl rfl ?_
  refine zs_sipush (v := 600) (n := 4) dX11_setRain_1 (by decide) rfl ?_
  refine zs_sipush (v := 1199) (n := 7) dX11_setRain_4 (by decide) rfl ?_
  refine zc_S (n := 10) (As := [.int p, .int (600 : Int32), .int (1199 : Int32)]) (mc := 0) (ms := 0) dX11_setRain_7 ok_X11_requireRange ⟨ml_X11_60, st_X11_requireRange⟩ rfl (Nat.le_of_ble_eq_true rfl) (by simp) (by omega) (Nat.le_refl _) (Nat.le_refl _) rfl rfl (c_requireRange (by assumption) (by assumption)) ?_
  refine zs_iload_n (n := 11) dX11_setRain_10 rfl rfl ?_
  refine zs_iload_n (n := 12) dX11_setRain_11 rfl rfl ?_
  refine zs_sipush (v := 1199) (n := 15) dX11_setRain_12 (by decide) rfl ?_
  exact zt_S (As := [.int q, .int p, .int (1199 : Int32)]) (mc := 1) (ms := 6) (nc1 := 0) (ns1 := 0) dX11_setRain_15 ok_X11_requireRange ⟨ml_X11_60, st_X11_requireRange⟩ rfl (Nat.le_of_ble_eq_true rfl) (by simp) (by omega) (Nat.le_refl _) (Nat.le_refl _) rfl (t_requireRange hx9) (Or.inl ⟨rfl, hQ⟩)
theorem f_setCold_0 {p : Int32} (hR : zRp Z Λ S M) (h3 : sc S 3 = 1) (hx9 : p < 0 ∨ ¬ p ≤ 40) : zTw Z l 3 mth_X11_setCold [.ref (Λ 1), .int p] M 1 6 0 M := by
  intro Q hQ
  have hb0 := hR.bnd.1.1
  have hb1 := hR.bnd.1.2.1
  have hb2 := hR.bnd.1.2.2.1
  show zX Z l 3 mth_X11_setCold 0 [(0, .ref (Λ 1)), (1, .int p)] [] M 1 6 Q
  refine zs_iload_n (n := 1) dX11_setCold_0 rfl rfl ?_
  refine zs_iconst (v := 0) (n := 2) dX11_setCold_1 (by decide) rfl ?_
  refine zs_bipush (v := 40) (n := 4) dX11_setCold_2 (by decide) rfl ?_
  exact zt_S (As := [.int p, .int (0 : Int32), .int (40 : Int32)]) (mc := 1) (ms := 6) (nc1 := 0) (ns1 := 0) dX11_setCold_4 ok_X11_requireRange ⟨ml_X11_60, st_X11_requireRange⟩ rfl (Nat.le_of_ble_eq_true rfl) (by simp) (by omega) (Nat.le_refl _) (Nat.le_refl _) rfl (t_requireRange hx9) (Or.inl ⟨rfl, hQ⟩)
theorem f_setLaw_0 {p q : Int32} (hR : zRp Z Λ S M) (h3 : sc S 3 = 1) (hx9 : p < 0 ∨ ¬ p ≤ 99) : zTw Z l 3 mth_X11_setLaw [.ref (Λ 1), .int p, .int q] M 1 6 0 M := by
  intro Q hQ
  have hb0 := hR.bnd.1.1
  have hb1 := hR.bnd.1.2.1
  have hb2 := hR.bnd.1.2.2.1
  show zX Z l 3 mth_X11_setLaw 0 [(0, .ref (Λ 1)), (1, .int p), (2, .int q)] [] M 1 6 Q
  refine zs_iload_n (n := 1) dX11_setLaw_0 rfl rfl ?_
  refine zs_iconst (v := 0) (n := 2) dX11_setLaw_1 (by decide) rfl ?_
  refine zs_bipush (v := 99) (n := 4) dX11_setLaw_2 (by decide) rfl ?_
  exact zt_S (As := [.int p, .int (0 : Int32), .int (99 : Int32)]) (mc := 1) (ms := 6) (nc1 := 0) (ns1 := 0) dX11_setLaw_4 ok_X11_requireRange ⟨ml_X11_60, st_X11_requireRange⟩ rfl (Nat.le_of_ble_eq_true rfl) (by simp) (by omega) (Nat.le_refl _) (Nat.le_refl _) rfl (t_requireRange hx9) (Or.inl ⟨rfl, hQ⟩)
theorem f_setLaw_1 {p q : Int32} (hR : zRp Z Λ S M) (h3 : sc S 3 = 1) (g1 : ¬ p < 0) (g2 : p ≤ 99) (hx9 : q < 0 ∨ ¬ q ≤ 99) : zTw Z l 3 mth_X11_setLaw [.ref (Λ 1), .int p, .int q] M 1 6 0 M := by
  intro Q hQ
  have hb0 := hR.bnd.1.1
  have hb1 := hR.bnd.1.2.1
  have hb2 := hR.bnd.1.2.2.1
  show zX Z l 3 mth_X11_setLaw 0 [(0, .ref (Λ 1)), (1, .int p), (2, .int q)] [] M 1 6 Q
  refine zs_iload_n (n := 1) dX11_setLaw_0 rfl rfl ?_
  refine zs_iconst (v := 0) (n := 2) dX11_setLaw_1 (by decide) rfl ?_
  refine zs_bipush (v := 99) (n := 4) dX11_setLaw_2 (by decide) rfl ?_
  refine zc_S (n := 7) (As := [.int p, .int (0 : Int32), .int (99 : Int32)]) (mc := 0) (ms := 0) dX11_setLaw_4 ok_X11_requireRange ⟨ml_X11_60, st_X11_requireRange⟩ rfl (Nat.le_of_ble_eq_true rfl) (by simp) (by omega) (Nat.le_refl _) (Nat.le_refl _) rfl rfl (c_requireRange (by assumption) (by assumption)) ?_
  refine zs_iload_n (n := 8) dX11_setLaw_7 rfl rfl ?_
  refine zs_iconst (v := 0) (n := 9) dX11_setLaw_8 (by decide) rfl ?_
  refine zs_bipush (v := 99) (n := 11) dX11_setLaw_9 (by decide) rfl ?_
  exact zt_S (As := [.int q, .int (0 : Int32), .int (99 : Int32)]) (mc := 1) (ms := 6) (nc1 := 0) (ns1 := 0) dX11_setLaw_11 ok_X11_requireRange ⟨ml_X11_60, st_X11_requireRange⟩ rfl (Nat.le_of_ble_eq_true rfl) (by simp) (by omega) (Nat.le_refl _) (Nat.le_refl _) rfl (t_requireRange hx9) (Or.inl ⟨rfl, hQ⟩)
theorem f_fineAt_0 {p : Int32} (hR : zRp Z Λ S M) (h3 : sc S 3 = 1) (hp : sV S 7 228 = 0) : zTw Z l 3 mth_X11_fineAt [.ref (Λ 1), .int p] M 1 6 1 M := by
  intro Q hQ
  have hb0 := hR.bnd.1.1
  have hb1 := hR.bnd.1.2.1
  have hb2 := hR.bnd.1.2.2.1
  show zX Z l 3 mth_X11_fineAt 0 [(0, .ref (Λ 1)), (1, .int p)] [] M 1 6 Q
  refine zs_aload_n (n := 1) dX11_fineAt_0 rfl rfl ?_
  exact zt_V (As := []) (ci := 16) (mc := 1) (ms := 6) (nc1 := 0) (ns1 := 0) dX11_fineAt_1 ok_X11_requirePlayed ⟨ml_X11_275, im_X11_requirePlayed, sl_X11_requirePlayed⟩ rfl (hR.kd (lvC h3 (by omega))) rfl (Nat.le_of_ble_eq_true rfl) (by simp) (by omega) (Nat.le_refl _) (Nat.le_refl _) rfl (t_requirePlayed hR h3 hp) (Or.inl ⟨rfl, hQ⟩)
theorem f_fineAt_1 {p : Int32} (hR : zRp Z Λ S M) (h3 : sc S 3 = 1) (hp : ¬ sV S 7 228 = 0) (hx9 : ¬ (¬ p < 0 ∧ ¬ nI (sc S 2) ≤ p)) : zTw Z l 3 mth_X11_fineAt [.ref (Λ 1), .int p] M 1 6 5 M := by
  intro Q hQ
  have hb0 := hR.bnd.1.1
  have hb1 := hR.bnd.1.2.1
  have hb2 := hR.bnd.1.2.2.1
  show zX Z l 3 mth_X11_fineAt 0 [(0, .ref (Λ 1)), (1, .int p)] [] M 1 6 Q
  refine zs_aload_n (n := 1) dX11_fineAt_0 rfl rfl ?_
  refine zc_V (n := 4) (As := []) (ci := 16) (mc := 0) (ms := 0) dX11_fineAt_1 ok_X11_requirePlayed ⟨ml_X11_275, im_X11_requirePlayed, sl_X11_requirePlayed⟩ rfl (hR.kd (lvC h3 (by omega))) rfl (Nat.le_of_ble_eq_true rfl) (by simp) (by omega) (Nat.le_refl _) (Nat.le_refl _) rfl rfl (c_requirePlayed hR h3 hp) ?_
  refine zs_aload_n (n := 5) dX11_fineAt_4 rfl rfl ?_
  refine zs_iload_n (n := 6) dX11_fineAt_5 rfl rfl ?_
  exact zt_V (As := [.int p]) (ci := 16) (mc := 1) (ms := 6) (nc1 := 0) (ns1 := 0) dX11_fineAt_6 ok_X11_requireVisit ⟨ml_X11_288, im_X11_requireVisit, sl_X11_requireVisit⟩ rfl (hR.kd (lvC h3 (by omega))) rfl (Nat.le_of_ble_eq_true rfl) (by simp) (by omega) (Nat.le_refl _) (Nat.le_refl _) rfl (t_requireVisit hR h3 hx9) (Or.inl ⟨rfl, hQ⟩)
theorem f_sumAt_0 {p : Int32} (hR : zRp Z Λ S M) (h3 : sc S 3 = 1) (hp : sV S 7 228 = 0) : zTw Z l 3 mth_X11_sumAt [.ref (Λ 1), .int p] M 1 6 1 M := by
  intro Q hQ
  have hb0 := hR.bnd.1.1
  have hb1 := hR.bnd.1.2.1
  have hb2 := hR.bnd.1.2.2.1
  show zX Z l 3 mth_X11_sumAt 0 [(0, .ref (Λ 1)), (1, .int p)] [] M 1 6 Q
  refine zs_aload_n (n := 1) dX11_sumAt_0 rfl rfl ?_
  exact zt_V (As := []) (ci := 16) (mc := 1) (ms := 6) (nc1 := 0) (ns1 := 0) dX11_sumAt_1 ok_X11_requirePlayed ⟨ml_X11_275, im_X11_requirePlayed, sl_X11_requirePlayed⟩ rfl (hR.kd (lvC h3 (by omega))) rfl (Nat.le_of_ble_eq_true rfl) (by simp) (by omega) (Nat.le_refl _) (Nat.le_refl _) rfl (t_requirePlayed hR h3 hp) (Or.inl ⟨rfl, hQ⟩)
theorem f_sumAt_1 {p : Int32} (hR : zRp Z Λ S M) (h3 : sc S 3 = 1) (hp : ¬ sV S 7 228 = 0) (hx9 : ¬ (¬ p < 0 ∧ ¬ nI (sc S 2) ≤ p)) : zTw Z l 3 mth_X11_sumAt [.ref (Λ 1), .int p] M 1 6 5 M := by
  intro Q hQ
  have hb0 := hR.bnd.1.1
  have hb1 := hR.bnd.1.2.1
  have hb2 := hR.bnd.1.2.2.1
  show zX Z l 3 mth_X11_sumAt 0 [(0, .ref (Λ 1)), (1, .int p)] [] M 1 6 Q
  refine zs_aload_n (n := 1) dX11_sumAt_0 rfl rfl ?_
  refine zc_V (n := 4) (As := []) (ci := 16) (mc := 0) (ms := 0) dX11_sumAt_1 ok_X11_requirePlayed ⟨ml_X11_275, im_X11_requirePlayed, sl_X11_requirePlayed⟩ rfl (hR.kd (lvC h3 (by omega))) rfl (Nat.le_of_ble_eq_true rfl) (by simp) (by omega) (Nat.le_refl _) (Nat.le_refl _) rfl rfl (c_requirePlayed hR h3 hp) ?_
  refine zs_aload_n (n := 5) dX11_sumAt_4 rfl rfl ?_
  refine zs_iload_n (n := 6) dX11_sumAt_5 rfl rfl ?_
  exact zt_V (As := [.int p]) (ci := 16) (mc := 1) (ms := 6) (nc1 := 0) (ns1 := 0) dX11_sumAt_6 ok_X11_requireVisit ⟨ml_X11_288, im_X11_requireVisit, sl_X11_requireVisit⟩ rfl (hR.kd (lvC h3 (by omega))) rfl (Nat.le_of_ble_eq_true rfl) (by simp) (by omega) (Nat.le_refl _) (Nat.le_refl _) rfl (t_requireVisit hR h3 hx9) (Or.inl ⟨rfl, hQ⟩)
theorem f_money_0 {p : Int32} (hR : zRp Z Λ S M) (h3 : sc S 3 = 1) (hx9 : ¬ (¬ p < 0 ∧ ¬ nI (sc S 1) ≤ p)) : zTw Z l 3 mth_X11_money [.ref (Λ 1), .int p] M 1 6 2 M := by
  intro Q hQ
  have hb0 := hR.bnd.1.1
  have hb1 := hR.bnd.1.2.1
  have hb2 := hR.bnd.1.2.2.1
  show zX Z l 3 mth_X11_money 0 [(0, .ref (Λ 1)), (1, .int p)] [] M 1 6 Q
  refine zs_aload_n (n := 1) dX11_money_0 rfl rfl ?_
  refine zs_iload_n (n := 2) dX11_money_1 rfl rfl ?_
  exact zt_V (As := [.int p]) (ci := 16) (mc := 1) (ms := 6) (nc1 := 0) (ns1 := 0) dX11_money_2 ok_X11_requireAct ⟨ml_X11_125, im_X11_requireAct, sl_X11_requireAct⟩ rfl (hR.kd (lvC h3 (by omega))) rfl (Nat.le_of_ble_eq_true rfl) (by simp) (by omega) (Nat.le_refl _) (Nat.le_refl _) rfl (t_requireAct hR h3 hx9) (Or.inl ⟨rfl, hQ⟩)
theorem f_play_0  (hR : zRp Z Λ S M) (h3 : sc S 3 = 1) (hp : ¬ sV S 7 228 = 0) : zTw Z l 8 mth_X11_play [.ref (Λ 1)] M 1 6 1 M := by
  intro Q hQ
  have hb0 := hR.bnd.1.1
  have hb1 := hR.bnd.1.2.1
  have hb2 := hR.bnd.1.2.2.1
  show zX Z l 8 mth_X11_play 0 [(0, .ref (Λ 1))] [] M 1 6 Q
  refine zs_aload_n (n := 1) dX11_play_0 rfl rfl ?_
  exact zt_V (As := []) (ci := 16) (mc := 1) (ms := 6) (nc1 := 0) (ns1 := 0) dX11_play_1 ok_X11_requireNotPlayed ⟨ml_X11_187, im_X11_requireNotPlayed, sl_X11_requireNotPlayed⟩ rfl (hR.kd (lvC h3 (by omega))) rfl (Nat.le_of_ble_eq_true rfl) (by simp) (by omega) (Nat.le_refl _) (Nat.le_refl _) rfl (t_requireNotPlayed hR h3 hp) (Or.inl ⟨rfl, hQ⟩)
theorem f_nextDay_0  (hR : zRp Z Λ S M) (h3 : sc S 3 = 1) (hp : sV S 7 228 = 0) : zTw Z l 8 mth_X11_nextDay [.ref (Λ 1)] M 1 6 1 M := by
  intro Q hQ
  have hb0 := hR.bnd.1.1
  have hb1 := hR.bnd.1.2.1
  have hb2 := hR.bnd.1.2.2.1
  show zX Z l 8 mth_X11_nextDay 0 [(0, .ref (Λ 1))] [] M 1 6 Q
  refine zs_aload_n (n := 1) dX11_nextDay_0 rfl rfl ?_
  exact zt_V (As := []) (ci := 16) (mc := 1) (ms := 6) (nc1 := 0) (ns1 := 0) dX11_nextDay_1 ok_X11_requirePlayed ⟨ml_X11_275, im_X11_requirePlayed, sl_X11_requirePlayed⟩ rfl (hR.kd (lvC h3 (by omega))) rfl (Nat.le_of_ble_eq_true rfl) (by simp) (by omega) (Nat.le_refl _) (Nat.le_refl _) rfl (t_requirePlayed hR h3 hp) (Or.inl ⟨rfl, hQ⟩)
theorem f_join_0 {p q : Int32} (hR : zRp Z Λ S M) (h3 : sc S 3 = 1) (hx9 : ¬ (¬ p < 0 ∧ ¬ nI (sc S 1) ≤ p)) : zTw Z l 4 mth_X11_join [.ref (Λ 1), .int p, .int q] M 1 6 2 M := by
  intro Q hQ
  have hb0 := hR.bnd.1.1
  have hb1 := hR.bnd.1.2.1
  have hb2 := hR.bnd.1.2.2.1
  show zX Z l 4 mth_X11_join 0 [(0, .ref (Λ 1)), (1, .int p), (2, .int q)] [] M 1 6 Q
  refine zs_aload_n (n := 1) dX11_join_0 rfl rfl ?_
  refine zs_iload_n (n := 2) dX11_join_1 rfl rfl ?_
  refine zs_iload_n (n := 3) dX11_join_2 rfl rfl ?_
  exact zt_V (As := [.int p, .int q]) (ci := 16) (mc := 1) (ms := 6) (nc1 := 0) (ns1 := 0) dX11_join_3 ok_X11_requireTwoActs ⟨ml_X11_136, im_X11_requireTwoActs, sl_X11_requireTwoActs⟩ rfl (hR.kd (lvC h3 (by omega))) rfl (Nat.le_of_ble_eq_true rfl) (by simp) (by omega) (Nat.le_refl _) (Nat.le_refl _) rfl (t_requireTwoActs0 hR h3 hx9) (Or.inl ⟨rfl, hQ⟩)
theorem f_join_1 {i : Nat} {q : Int32} (hR : zRp Z Λ S M) (h3 : sc S 3 = 1) (hi : i < sc S 1) (hx9 : ¬ (¬ q < 0 ∧ ¬ nI (sc S 1) ≤ q)) : zTw Z l 4 mth_X11_join [.ref (Λ 1), .int (nI i), .int q] M 1 6 2 M := by
  intro Q hQ
  have hb0 := hR.bnd.1.1
  have hb1 := hR.bnd.1.2.1
  have hb2 := hR.bnd.1.2.2.1
  show zX Z l 4 mth_X11_join 0 [(0, .ref (Λ 1)), (1, .int (nI i)), (2, .int q)] [] M 1 6 Q
  refine zs_aload_n (n := 1) dX11_join_0 rfl rfl ?_
  refine zs_iload_n (n := 2) dX11_join_1 rfl rfl ?_
  refine zs_iload_n (n := 3) dX11_join_2 rfl rfl ?_
  exact zt_V (As := [.int (nI i), .int q]) (ci := 16) (mc := 1) (ms := 6) (nc1 := 0) (ns1 := 0) dX11_join_3 ok_X11_requireTwoActs ⟨ml_X11_136, im_X11_requireTwoActs, sl_X11_requireTwoActs⟩ rfl (hR.kd (lvC h3 (by omega))) rfl (Nat.le_of_ble_eq_true rfl) (by simp) (by omega) (Nat.le_refl _) (Nat.le_refl _) rfl (t_requireTwoActs1 hR h3 hi hx9) (Or.inl ⟨rfl, hQ⟩)
theorem f_join_2 {i : Nat} (hR : zRp Z Λ S M) (h3 : sc S 3 = 1) (hi : i < sc S 1) : zTw Z l 4 mth_X11_join [.ref (Λ 1), .int (nI i), .int (nI i)] M 1 6 0 M := by
  intro Q hQ
  have hb0 := hR.bnd.1.1
  have hb1 := hR.bnd.1.2.1
  have hb2 := hR.bnd.1.2.2.1
  show zX Z l 4 mth_X11_join 0 [(0, .ref (Λ 1)), (1, .int (nI i)), (2, .int (nI i))] [] M 1 6 Q
  refine zs_aload_n (n := 1) dX11_join_0 rfl rfl ?_
  refine zs_iload_n (n := 2) dX11_join_1 rfl rfl ?_
  refine zs_iload_n (n := 3) dX11_join_2 rfl rfl ?_
  exact zt_V (As := [.int (nI i), .int (nI i)]) (ci := 16) (mc := 1) (ms := 6) (nc1 := 0) (ns1 := 0) dX11_join_3 ok_X11_requireTwoActs ⟨ml_X11_136, im_X11_requireTwoActs, sl_X11_requireTwoActs⟩ rfl (hR.kd (lvC h3 (by omega))) rfl (Nat.le_of_ble_eq_true rfl) (by simp) (by omega) (Nat.le_refl _) (Nat.le_refl _) rfl (t_requireTwoActs2 hR h3 hi) (Or.inl ⟨rfl, hQ⟩)
theorem f_addCustom_0 {p q : Int32} (hR : zRp Z Λ S M) (h3 : sc S 3 = 1) (hx9 : ¬ (¬ p < 0 ∧ ¬ nI (sc S 1) ≤ p)) : zTw Z l 4 mth_X11_addCustom [.ref (Λ 1), .int p, .int q] M 1 6 2 M := by
  intro Q hQ
  have hb0 := hR.bnd.1.1
  have hb1 := hR.bnd.1.2.1
  have hb2 := hR.bnd.1.2.2.1
  show zX Z l 4 mth_X11_addCustom 0 [(0, .ref (Λ 1)), (1, .int p), (2, .int q)] [] M 1 6 Q
  refine zs_aload_n (n := 1) dX11_addCustom_0 rfl rfl ?_
  refine zs_iload_n (n := 2) dX11_addCustom_1 rfl rfl ?_
  refine zs_iload_n (n := 3) dX11_addCustom_2 rfl rfl ?_
  exact zt_V (As := [.int p, .int q]) (ci := 16) (mc := 1) (ms := 6) (nc1 := 0) (ns1 := 0) dX11_addCustom_3 ok_X11_requireTwoActs ⟨ml_X11_136, im_X11_requireTwoActs, sl_X11_requireTwoActs⟩ rfl (hR.kd (lvC h3 (by omega))) rfl (Nat.le_of_ble_eq_true rfl) (by simp) (by omega) (Nat.le_refl _) (Nat.le_refl _) rfl (t_requireTwoActs0 hR h3 hx9) (Or.inl ⟨rfl, hQ⟩)
theorem f_addCustom_1 {i : Nat} {q : Int32} (hR : zRp Z Λ S M) (h3 : sc S 3 = 1) (hi : i < sc S 1) (hx9 : ¬ (¬ q < 0 ∧ ¬ nI (sc S 1) ≤ q)) : zTw Z l 4 mth_X11_addCustom [.ref (Λ 1), .int (nI i), .int q] M 1 6 2 M := by
  intro Q hQ
  have hb0 := hR.bnd.1.1
  have hb1 := hR.bnd.1.2.1
  have hb2 := hR.bnd.1.2.2.1
  show zX Z l 4 mth_X11_addCustom 0 [(0, .ref (Λ 1)), (1, .int (nI i)), (2, .int q)] [] M 1 6 Q
  refine zs_aload_n (n := 1) dX11_addCustom_0 rfl rfl ?_
  refine zs_iload_n (n := 2) dX11_addCustom_1 rfl rfl ?_
  refine zs_iload_n (n := 3) dX11_addCustom_2 rfl rfl ?_
  exact zt_V (As := [.int (nI i), .int q]) (ci := 16) (mc := 1) (ms := 6) (nc1 := 0) (ns1 := 0) dX11_addCustom_3 ok_X11_requireTwoActs ⟨ml_X11_136, im_X11_requireTwoActs, sl_X11_requireTwoActs⟩ rfl (hR.kd (lvC h3 (by omega))) rfl (Nat.le_of_ble_eq_true rfl) (by simp) (by omega) (Nat.le_refl _) (Nat.le_refl _) rfl (t_requireTwoActs1 hR h3 hi hx9) (Or.inl ⟨rfl, hQ⟩)
theorem f_addCustom_2 {i : Nat} (hR : zRp Z Λ S M) (h3 : sc S 3 = 1) (hi : i < sc S 1) : zTw Z l 4 mth_X11_addCustom [.ref (Λ 1), .int (nI i), .int (nI i)] M 1 6 0 M := by
  intro Q hQ
  have hb0 := hR.bnd.1.1
  have hb1 := hR.bnd.1.2.1
  have hb2 := hR.bnd.1.2.2.1
  show zX Z l 4 mth_X11_addCustom 0 [(0, .ref (Λ 1)), (1, .int (nI i)), (2, .int (nI i))] [] M 1 6 Q
  refine zs_aload_n (n := 1) dX11_addCustom_0 rfl rfl ?_
  refine zs_iload_n (n := 2) dX11_addCustom_1 rfl rfl ?_
  refine zs_iload_n (n := 3) dX11_addCustom_2 rfl rfl ?_
  exact zt_V (As := [.int (nI i), .int (nI i)]) (ci := 16) (mc := 1) (ms := 6) (nc1 := 0) (ns1 := 0) dX11_addCustom_3 ok_X11_requireTwoActs ⟨ml_X11_136, im_X11_requireTwoActs, sl_X11_requireTwoActs⟩ rfl (hR.kd (lvC h3 (by omega))) rfl (Nat.le_of_ble_eq_true rfl) (by simp) (by omega) (Nat.le_refl _) (Nat.le_refl _) rfl (t_requireTwoActs2 hR h3 hi) (Or.inl ⟨rfl, hQ⟩)
theorem f_addCustom_3 {i j : Nat} (hR : zRp Z Λ S M) (h3 : sc S 3 = 1) (hi : i < sc S 1) (hj : j < sc S 1) (hne : i ≠ j) (hx9 : ¬ fLead S i 8 &&& zbit (nI j) = 0) : zTw Z l 4 mth_X11_addCustom [.ref (Λ 1), .int (nI i), .int (nI j)] M 1 6 4 M := by
  intro Q hQ
  have hb0 := hR.bnd.1.1
  have hb1 := hR.bnd.1.2.1
  have hb2 := hR.bnd.1.2.2.1
  show zX Z l 4 mth_X11_addCustom 0 [(0, .ref (Λ 1)), (1, .int (nI i)), (2, .int (nI j))] [] M 1 6 Q
  refine zs_aload_n (n := 1) dX11_addCustom_0 rfl rfl ?_
  refine zs_iload_n (n := 2) dX11_addCustom_1 rfl rfl ?_
  refine zs_iload_n (n := 3) dX11_addCustom_2 rfl rfl ?_
  refine zc_V (n := 6) (As := [.int (nI i), .int (nI j)]) (ci := 16) (mc := 0) (ms := 0) dX11_addCustom_3 ok_X11_requireTwoActs ⟨ml_X11_136, im_X11_requireTwoActs, sl_X11_requireTwoActs⟩ rfl (hR.kd (lvC h3 (by omega))) rfl (Nat.le_of_ble_eq_true rfl) (by simp) (by omega) (Nat.le_refl _) (Nat.le_refl _) rfl rfl (c_requireTwoActs hR h3 hi hj hne) ?_
  refine zs_aload_n (n := 7) dX11_addCustom_6 rfl rfl ?_
  refine zs_getr (b := (Λ 3)) (n := 10) dX11_addCustom_7 gf_X11_19 (hR.kd (lvC h3 (by omega))) (hR.pt (lvC h3 (by omega)) rfl (by decide)) rfl ?_
  refine zs_iload_n (n := 11) dX11_addCustom_10 rfl rfl ?_
  refine zs_iload_n (n := 12) dX11_addCustom_11 rfl rfl ?_
  refine zc_V (n := 15) (As := [.int (nI j), .int (nI i)]) (ci := 6) (mc := 0) (ms := 0) dX11_addCustom_12 ok_X1_leads ⟨ml_X11_140, im_X1_leads, sl_X1_leads⟩ rfl (hR.kd (lvC h3 (by omega))) rfl (Nat.le_of_ble_eq_true rfl) (by simp) (by omega) (Nat.le_refl _) (Nat.le_refl _) rfl rfl (c_leads hR h3 (show i < 8 from by omega)) ?_
  refine zs_if_eq (tgt := 28) (n := 18) dX11_addCustom_15 (by decide) rfl (fun h => absurd h (by rw [decide_eq_true hx9]; decide)) (fun _ => ?_)
  exact zs_throw thr_X11_addCustom_18 rfl (by simp) (Nat.le_refl _) (Nat.le_refl _) hQ
theorem f_addCustom {i j : Nat} (hR : zRp Z Λ S M) (h3 : sc S 3 = 1) (hi : i < sc S 1) (hj : j < sc S 1) (hne : i ≠ j) (hx9 : fLead S i 8 &&& zbit (nI j) = 0) : zG Z l 4 mth_X11_addCustom [.ref (Λ 1), .int (nI i), .int (nI j)] M 0 0 (some (.int (zb (!fHas S (nI i) j)))) (zRp Z Λ (sc S, sV S, u2 (sW S) 9 j (sW S 9 j ||| zbit (nI i)), sT S, sP S)) := by
  intro Q hQ
  have hb0 := hR.bnd.1.1
  have hb1 := hR.bnd.1.2.1
  have hb2 := hR.bnd.1.2.2.1
  show zX Z l 4 mth_X11_addCustom 0 [(0, .ref (Λ 1)), (1, .int (nI i)), (2, .int (nI j))] [] M 0 0 Q
  refine zs_aload_n (n := 1) dX11_addCustom_0 rfl rfl ?_
  refine zs_iload_n (n := 2) dX11_addCustom_1 rfl rfl ?_
  refine zs_iload_n (n := 3) dX11_addCustom_2 rfl rfl ?_
  refine zc_V (n := 6) (As := [.int (nI i), .int (nI j)]) (ci := 16) (mc := 0) (ms := 0) dX11_addCustom_3 ok_X11_requireTwoActs ⟨ml_X11_136, im_X11_requireTwoActs, sl_X11_requireTwoActs⟩ rfl (hR.kd (lvC h3 (by omega))) rfl (Nat.le_of_ble_eq_true rfl) (by simp) (by omega) (Nat.le_refl _) (Nat.le_refl _) rfl rfl (c_requireTwoActs hR h3 hi hj hne) ?_
  refine zs_aload_n (n := 7) dX11_addCustom_6 rfl rfl ?_
  refine zs_getr (b := (Λ 3)) (n := 10) dX11_addCustom_7 gf_X11_19 (hR.kd (lvC h3 (by omega))) (hR.pt (lvC h3 (by omega)) rfl (by decide)) rfl ?_
  refine zs_iload_n (n := 11) dX11_addCustom_10 rfl rfl ?_
  refine zs_iload_n (n := 12) dX11_addCustom_11 rfl rfl ?_
  refine zc_V (n := 15) (As := [.int (nI j), .int (nI i)]) (ci := 6) (mc := 0) (ms := 0) dX11_addCustom_12 ok_X1_leads ⟨ml_X11_140, im_X1_leads, sl_X1_leads⟩ rfl (hR.kd (lvC h3 (by omega))) rfl (Nat.le_of_ble_eq_true rfl) (by simp) (by omega) (Nat.le_refl _) (Nat.le_refl _) rfl rfl (c_leads hR h3 (show i < 8 from by omega)) ?_
  refine zs_if_eq (tgt := 28) (n := 18) dX11_addCustom_15 (by decide) rfl (fun _ => ?_) (fun h => absurd (by rw [decide_eq_false (fun h9 => h9 hx9)]; decide) h)
  refine zs_aload_n (n := 29) dX11_addCustom_28 rfl rfl ?_
  refine zs_getr (b := (Λ 3)) (n := 32) dX11_addCustom_29 gf_X11_19 (hR.kd (lvC h3 (by omega))) (hR.pt (lvC h3 (by omega)) rfl (by decide)) rfl ?_
  refine zs_iload_n (n := 33) dX11_addCustom_32 rfl rfl ?_
  refine zs_iload_n (n := 34) dX11_addCustom_33 rfl rfl ?_
  refine zc_V (n := 37) (As := [.int (nI i), .int (nI j)]) (ci := 6) (mc := 0) (ms := 0) dX11_addCustom_34 ok_X1_has ⟨ml_X11_146, im_X1_has, sl_X1_has⟩ rfl (hR.kd (lvC h3 (by omega))) rfl (Nat.le_of_ble_eq_true rfl) (by simp) (by omega) (Nat.le_refl _) (Nat.le_refl _) rfl rfl (c_has hR h3 (show j < 8 from by omega)) ?_
  refine zs_if_ne (tgt := 44) (n := 40) dX11_addCustom_37 (by decide) rfl (fun h37 => ?_) (fun h37 => ?_)
  · refine zs_iconst (v := 0) (n := 45) dX11_addCustom_44 (by decide) rfl ?_
    refine zX.top (show (0 : Int32) = zb (!fHas S (nI i) j) from by first | (rw [zb1.mp h37]; rfl) | (rw [zb0.mp h37]; rfl)) ?_
    refine zs_istore_n (n := 46) dX11_addCustom_45 (by decide) rfl ?_
    refine zs_aload_n (n := 47) dX11_addCustom_46 rfl rfl ?_
    refine zs_getr (b := (Λ 3)) (n := 50) dX11_addCustom_47 gf_X11_19 (hR.kd (lvC h3 (by omega))) (hR.pt (lvC h3 (by omega)) rfl (by decide)) rfl ?_
    refine zs_iload_n (n := 51) dX11_addCustom_50 rfl rfl ?_
    refine zs_iload_n (n := 52) dX11_addCustom_51 rfl rfl ?_
    refine zg_V (n := 55) (As := [.int (nI i), .int (nI j)]) (ci := 6) (mc := 0) (ms := 0) dX11_addCustom_52 ok_X1_put ⟨ml_X11_149, im_X1_put, sl_X1_put⟩ rfl (hR.kd (lvC h3 (by omega))) rfl (Nat.le_of_ble_eq_true rfl) (by simp) (by omega) (Nat.le_refl _) (Nat.le_refl _) rfl rfl (c_put hR h3 (show j < 8 from by omega)) ?_
    intro M hR
    refine zs_iload_n (n := 56) dX11_addCustom_55 rfl rfl ?_
    refine zs_ireturn dX11_addCustom_56 ⟨_, rfl, (by cases fHas S (nI i) j <;> decide)⟩ ?_
    exact hQ _ hR
  · refine zs_iconst (v := 1) (n := 41) dX11_addCustom_40 (by decide) rfl ?_
    refine zs_goto (tgt := 45) dX11_addCustom_41 (by decide) ?_
    refine zX.top (show (1 : Int32) = zb (!fHas S (nI i) j) from by first | (rw [zb1.mp h37]; rfl) | (rw [zb0.mp h37]; rfl)) ?_
    refine zs_istore_n (n := 46) dX11_addCustom_45 (by decide) rfl ?_
    refine zs_aload_n (n := 47) dX11_addCustom_46 rfl rfl ?_
    refine zs_getr (b := (Λ 3)) (n := 50) dX11_addCustom_47 gf_X11_19 (hR.kd (lvC h3 (by omega))) (hR.pt (lvC h3 (by omega)) rfl (by decide)) rfl ?_
    refine zs_iload_n (n := 51) dX11_addCustom_50 rfl rfl ?_
    refine zs_iload_n (n := 52) dX11_addCustom_51 rfl rfl ?_
    refine zg_V (n := 55) (As := [.int (nI i), .int (nI j)]) (ci := 6) (mc := 0) (ms := 0) dX11_addCustom_52 ok_X1_put ⟨ml_X11_149, im_X1_put, sl_X1_put⟩ rfl (hR.kd (lvC h3 (by omega))) rfl (Nat.le_of_ble_eq_true rfl) (by simp) (by omega) (Nat.le_refl _) (Nat.le_refl _) rfl rfl (c_put hR h3 (show j < 8 from by omega)) ?_
    intro M hR
    refine zs_iload_n (n := 56) dX11_addCustom_55 rfl rfl ?_
    refine zs_ireturn dX11_addCustom_56 ⟨_, rfl, (by cases fHas S (nI i) j <;> decide)⟩ ?_
    exact hQ _ hR
theorem f_endCustom_0 {p q : Int32} (hR : zRp Z Λ S M) (h3 : sc S 3 = 1) (hx9 : ¬ (¬ p < 0 ∧ ¬ nI (sc S 1) ≤ p)) : zTw Z l 4 mth_X11_endCustom [.ref (Λ 1), .int p, .int q] M 1 6 2 M := by
  intro Q hQ
  have hb0 := hR.bnd.1.1
  have hb1 := hR.bnd.1.2.1
  have hb2 := hR.bnd.1.2.2.1
  show zX Z l 4 mth_X11_endCustom 0 [(0, .ref (Λ 1)), (1, .int p), (2, .int q)] [] M 1 6 Q
  refine zs_aload_n (n := 1) dX11_endCustom_0 rfl rfl ?_
  refine zs_iload_n (n := 2) dX11_endCustom_1 rfl rfl ?_
  exact zt_V (As := [.int p]) (ci := 16) (mc := 1) (ms := 6) (nc1 := 0) (ns1 := 0) dX11_endCustom_2 ok_X11_requireAct ⟨ml_X11_125, im_X11_requireAct, sl_X11_requireAct⟩ rfl (hR.kd (lvC h3 (by omega))) rfl (Nat.le_of_ble_eq_true rfl) (by simp) (by omega) (Nat.le_refl _) (Nat.le_refl _) rfl (t_requireAct hR h3 hx9) (Or.inl ⟨rfl, hQ⟩)
theorem f_endCustom_1 {i : Nat} {q : Int32} (hR : zRp Z Λ S M) (h3 : sc S 3 = 1) (hi : i < sc S 1) (hx9 : ¬ (¬ q < 0 ∧ ¬ nI (sc S 1) ≤ q)) : zTw Z l 4 mth_X11_endCustom [.ref (Λ 1), .int (nI i), .int q] M 1 6 2 M := by
  intro Q hQ
  have hb0 := hR.bnd.1.1
  have hb1 := hR.bnd.1.2.1
  have hb2 := hR.bnd.1.2.2.1
  show zX Z l 4 mth_X11_endCustom 0 [(0, .ref (Λ 1)), (1, .int (nI i)), (2, .int q)] [] M 1 6 Q
  refine zs_aload_n (n := 1) dX11_endCustom_0 rfl rfl ?_
  refine zs_iload_n (n := 2) dX11_endCustom_1 rfl rfl ?_
  refine zc_V (n := 5) (As := [.int (nI i)]) (ci := 16) (mc := 0) (ms := 0) dX11_endCustom_2 ok_X11_requireAct ⟨ml_X11_125, im_X11_requireAct, sl_X11_requireAct⟩ rfl (hR.kd (lvC h3 (by omega))) rfl (Nat.le_of_ble_eq_true rfl) (by simp) (by omega) (Nat.le_refl _) (Nat.le_refl _) rfl rfl (c_requireAct hR h3 hi) ?_
  refine zs_aload_n (n := 6) dX11_endCustom_5 rfl rfl ?_
  refine zs_iload_n (n := 7) dX11_endCustom_6 rfl rfl ?_
  exact zt_V (As := [.int q]) (ci := 16) (mc := 1) (ms := 6) (nc1 := 0) (ns1 := 0) dX11_endCustom_7 ok_X11_requireAct ⟨ml_X11_125, im_X11_requireAct, sl_X11_requireAct⟩ rfl (hR.kd (lvC h3 (by omega))) rfl (Nat.le_of_ble_eq_true rfl) (by simp) (by omega) (Nat.le_refl _) (Nat.le_refl _) rfl (t_requireAct hR h3 hx9) (Or.inl ⟨rfl, hQ⟩)
theorem f_endCustom {i j : Nat} (hR : zRp Z Λ S M) (h3 : sc S 3 = 1) (hi : i < sc S 1) (hj : j < sc S 1) : zG Z l 4 mth_X11_endCustom [.ref (Λ 1), .int (nI i), .int (nI j)] M 0 0 (some (.int (zb (fHas S (nI i) j)))) (zRp Z Λ (sc S, sV S, u2 (sW S) 9 j (sW S 9 j &&& (zbit (nI i) ^^^ (-1))), sT S, sP S)) := by
  intro Q hQ
  have hb0 := hR.bnd.1.1
  have hb1 := hR.bnd.1.2.1
  have hb2 := hR.bnd.1.2.2.1
  show zX Z l 4 mth_X11_endCustom 0 [(0, .ref (Λ 1)), (1, .int (nI i)), (2, .int (nI j))] [] M 0 0 Q
  refine zs_aload_n (n := 1) dX11_endCustom_0 rfl rfl ?_
  refine zs_iload_n (n := 2) dX11_endCustom_1 rfl rfl ?_
  refine zc_V (n := 5) (As := [.int (nI i)]) (ci := 16) (mc := 0) (ms := 0) dX11_endCustom_2 ok_X11_requireAct ⟨ml_X11_125, im_X11_requireAct, sl_X11_requireAct⟩ rfl (hR.kd (lvC h3 (by omega))) rfl (Nat.le_of_ble_eq_true rfl) (by simp) (by omega) (Nat.le_refl _) (Nat.le_refl _) rfl rfl (c_requireAct hR h3 hi) ?_
  refine zs_aload_n (n := 6) dX11_endCustom_5 rfl rfl ?_
  refine zs_iload_n (n := 7) dX11_endCustom_6 rfl rfl ?_
  refine zc_V (n := 10) (As := [.int (nI j)]) (ci := 16) (mc := 0) (ms := 0) dX11_endCustom_7 ok_X11_requireAct ⟨ml_X11_125, im_X11_requireAct, sl_X11_requireAct⟩ rfl (hR.kd (lvC h3 (by omega))) rfl (Nat.le_of_ble_eq_true rfl) (by simp) (by omega) (Nat.le_refl _) (Nat.le_refl _) rfl rfl (c_requireAct hR h3 hj) ?_
  refine zs_aload_n (n := 11) dX11_endCustom_10 rfl rfl ?_
  refine zs_getr (b := (Λ 3)) (n := 14) dX11_endCustom_11 gf_X11_19 (hR.kd (lvC h3 (by omega))) (hR.pt (lvC h3 (by omega)) rfl (by decide)) rfl ?_
  refine zs_iload_n (n := 15) dX11_endCustom_14 rfl rfl ?_
  refine zs_iload_n (n := 16) dX11_endCustom_15 rfl rfl ?_
  refine zc_V (n := 19) (As := [.int (nI i), .int (nI j)]) (ci := 6) (mc := 0) (ms := 0) dX11_endCustom_16 ok_X1_has ⟨ml_X11_146, im_X1_has, sl_X1_has⟩ rfl (hR.kd (lvC h3 (by omega))) rfl (Nat.le_of_ble_eq_true rfl) (by simp) (by omega) (Nat.le_refl _) (Nat.le_refl _) rfl rfl (c_has hR h3 (show j < 8 from by omega)) ?_
  refine zs_istore_n (n := 20) dX11_endCustom_19 (by decide) rfl ?_
  refine zs_aload_n (n := 21) dX11_endCustom_20 rfl rfl ?_
  refine zs_getr (b := (Λ 3)) (n := 24) dX11_endCustom_21 gf_X11_19 (hR.kd (lvC h3 (by omega))) (hR.pt (lvC h3 (by omega)) rfl (by decide)) rfl ?_
  refine zs_iload_n (n := 25) dX11_endCustom_24 rfl rfl ?_
  refine zs_iload_n (n := 26) dX11_endCustom_25 rfl rfl ?_
  refine zg_V (n := 29) (As := [.int (nI i), .int (nI j)]) (ci := 6) (mc := 0) (ms := 0) dX11_endCustom_26 ok_X1_take ⟨ml_X11_152, im_X1_take, sl_X1_take⟩ rfl (hR.kd (lvC h3 (by omega))) rfl (Nat.le_of_ble_eq_true rfl) (by simp) (by omega) (Nat.le_refl _) (Nat.le_refl _) rfl rfl (c_take hR h3 (show j < 8 from by omega)) ?_
  intro M hR
  refine zs_iload_n (n := 30) dX11_endCustom_29 rfl rfl ?_
  refine zs_ireturn dX11_endCustom_30 ⟨_, rfl, (by cases fHas S (nI i) j <;> decide)⟩ ?_
  exact hQ _ hR
theorem f_lotAt {i n : Nat} (hR : zRp Z Λ S M) (h3 : sc S 3 = 1) (h1 : ¬ sV S 4 324 = 0) (hn : sV S 4 323 = nI n) (hi : i < n) (hn8 : n ≤ 8) : zD Z l 3 mth_X11_lotAt [.ref (Λ 1), .int (nI i)] M 0 0 (some (.int (sW S 11 i))) M := by
  intro Q hQ
  have hb0 := hR.bnd.1.1
  have hb1 := hR.bnd.1.2.1
  have hb2 := hR.bnd.1.2.2.1
  show zX Z l 3 mth_X11_lotAt 0 [(0, .ref (Λ 1)), (1, .int (nI i))] [] M 0 0 Q
  refine zs_aload_n (n := 1) dX11_lotAt_0 rfl rfl ?_
  refine zs_getr (b := (Λ 4)) (n := 4) dX11_lotAt_1 gf_X11_26 (hR.kd (lvC h3 (by omega))) (hR.pt (lvC h3 (by omega)) rfl (by decide)) rfl ?_
  refine zs_getv (x := (sV S 4 324)) (n := 7) dX11_lotAt_4 gf_X11_175 (hR.kd (lvC h3 (by omega))) (hR.iv (lvC h3 (by omega)) (by decide) (by decide)) rfl ?_
  refine zs_if_eq (tgt := 25) (n := 10) dX11_lotAt_7 (by decide) rfl (fun h => absurd h h1) (fun _ => ?_)
  refine zs_iload_n (n := 11) dX11_lotAt_10 rfl rfl ?_
  refine zs_if_lt (tgt := 25) (n := 14) dX11_lotAt_11 (by decide) rfl (fun h => absurd h (nI_pos (by omega))) (fun _ => ?_)
  refine zs_iload_n (n := 15) dX11_lotAt_14 rfl rfl ?_
  refine zs_aload_n (n := 16) dX11_lotAt_15 rfl rfl ?_
  refine zs_getr (b := (Λ 4)) (n := 19) dX11_lotAt_16 gf_X11_26 (hR.kd (lvC h3 (by omega))) (hR.pt (lvC h3 (by omega)) rfl (by decide)) rfl ?_
  refine zs_getv (x := (sV S 4 323)) (n := 22) dX11_lotAt_19 gf_X11_173 (hR.kd (lvC h3 (by omega))) (hR.iv (lvC h3 (by omega)) (by decide) (by decide)) rfl ?_
  refine zs_icmp_lt (tgt := 35) (n := 25) dX11_lotAt_22 (by decide) rfl (fun _ => ?_) (fun h => absurd (by rw [hn]; exact nI_lt hi (by omega)) h)
  refine zs_aload_n (n := 36) dX11_lotAt_35 rfl rfl ?_
  refine zs_getr (b := (Λ 4)) (n := 39) dX11_lotAt_36 gf_X11_26 (hR.kd (lvC h3 (by omega))) (hR.pt (lvC h3 (by omega)) rfl (by decide)) rfl ?_
  refine zs_getr (b := (Λ 11)) (n := 42) dX11_lotAt_39 gf_X11_180 (hR.kd (lvC h3 (by omega))) (hR.pt (lvC h3 (by omega)) rfl (by decide)) rfl ?_
  refine zs_iload_n (n := 43) dX11_lotAt_42 rfl rfl ?_
  refine zs_ialdv (x := (sW S 11 i)) (n := 44) dX11_lotAt_43 (hR.kd (lvC h3 (by omega))) (by rw [show mN M (Λ 11) = 8 from (hR.ln (lvC h3 (by omega)) rfl (by decide))]; exact vp_in_nI (by first | exact (show i < 8 from by omega) | omega) (by omega)) (by rw [nI_clamp (by omega)]; exact hR.av (lvC h3 (by omega))) rfl ?_
  refine zs_ireturn dX11_lotAt_44 ⟨_, rfl, rfl⟩ ?_
  exact hQ
theorem f_lotAt_0 {p : Int32} (hR : zRp Z Λ S M) (h3 : sc S 3 = 1) (h1 : sV S 4 324 = 0) : zTw Z l 3 mth_X11_lotAt [.ref (Λ 1), .int p] M 1 6 5 M := by
  intro Q hQ
  have hb0 := hR.bnd.1.1
  have hb1 := hR.bnd.1.2.1
  have hb2 := hR.bnd.1.2.2.1
  show zX Z l 3 mth_X11_lotAt 0 [(0, .ref (Λ 1)), (1, .int p)] [] M 1 6 Q
  refine zs_aload_n (n := 1) dX11_lotAt_0 rfl rfl ?_
  refine zs_getr (b := (Λ 4)) (n := 4) dX11_lotAt_1 gf_X11_26 (hR.kd (lvC h3 (by omega))) (hR.pt (lvC h3 (by omega)) rfl (by decide)) rfl ?_
  refine zs_getv (x := (sV S 4 324)) (n := 7) dX11_lotAt_4 gf_X11_175 (hR.kd (lvC h3 (by omega))) (hR.iv (lvC h3 (by omega)) (by decide) (by decide)) rfl ?_
  refine zs_if_eq (tgt := 25) (n := 10) dX11_lotAt_7 (by decide) rfl (fun _ => ?_) (fun h => absurd h1 h)
  exact zs_throw thr_X11_lotAt_25 rfl (by simp) (Nat.le_refl _) (Nat.le_refl _) hQ
theorem f_lotAt_1 {p : Int32} (hR : zRp Z Λ S M) (h3 : sc S 3 = 1) (h1 : ¬ sV S 4 324 = 0) (hx9 : p < 0) : zTw Z l 3 mth_X11_lotAt [.ref (Λ 1), .int p] M 1 6 5 M := by
  intro Q hQ
  have hb0 := hR.bnd.1.1
  have hb1 := hR.bnd.1.2.1
  have hb2 := hR.bnd.1.2.2.1
  show zX Z l 3 mth_X11_lotAt 0 [(0, .ref (Λ 1)), (1, .int p)] [] M 1 6 Q
  refine zs_aload_n (n := 1) dX11_lotAt_0 rfl rfl ?_
  refine zs_getr (b := (Λ 4)) (n := 4) dX11_lotAt_1 gf_X11_26 (hR.kd (lvC h3 (by omega))) (hR.pt (lvC h3 (by omega)) rfl (by decide)) rfl ?_
  refine zs_getv (x := (sV S 4 324)) (n := 7) dX11_lotAt_4 gf_X11_175 (hR.kd (lvC h3 (by omega))) (hR.iv (lvC h3 (by omega)) (by decide) (by decide)) rfl ?_
  refine zs_if_eq (tgt := 25) (n := 10) dX11_lotAt_7 (by decide) rfl (fun h => absurd h h1) (fun _ => ?_)
  refine zs_iload_n (n := 11) dX11_lotAt_10 rfl rfl ?_
  refine zs_if_lt (tgt := 25) (n := 14) dX11_lotAt_11 (by decide) rfl (fun _ => ?_) (fun h => absurd hx9 h)
  exact zs_throw thr_X11_lotAt_25 rfl (by simp) (Nat.le_refl _) (Nat.le_refl _) hQ
theorem f_lotAt_2 {p : Int32} (hR : zRp Z Λ S M) (h3 : sc S 3 = 1) (h1 : ¬ sV S 4 324 = 0) (hx9 : ¬ p < 0) (hx8 : ¬ p < sV S 4 323) : zTw Z l 3 mth_X11_lotAt [.ref (Λ 1), .int p] M 1 6 5 M := by
  intro Q hQ
  have hb0 := hR.bnd.1.1
  have hb1 := hR.bnd.1.2.1
  have hb2 := hR.bnd.1.2.2.1
  show zX Z l 3 mth_X11_lotAt 0 [(0, .ref (Λ 1)), (1, .int p)] [] M 1 6 Q
  refine zs_aload_n (n := 1) dX11_lotAt_0 rfl rfl ?_
  refine zs_getr (b := (Λ 4)) (n := 4) dX11_lotAt_1 gf_X11_26 (hR.kd (lvC h3 (by omega))) (hR.pt (lvC h3 (by omega)) rfl (by decide)) rfl ?_
  refine zs_getv (x := (sV S 4 324)) (n := 7) dX11_lotAt_4 gf_X11_175 (hR.kd (lvC h3 (by omega))) (hR.iv (lvC h3 (by omega)) (by decide) (by decide)) rfl ?_
  refine zs_if_eq (tgt := 25) (n := 10) dX11_lotAt_7 (by decide) rfl (fun h => absurd h h1) (fun _ => ?_)
  refine zs_iload_n (n := 11) dX11_lotAt_10 rfl rfl ?_
  refine zs_if_lt (tgt := 25) (n := 14) dX11_lotAt_11 (by decide) rfl (fun h => absurd h hx9) (fun _ => ?_)
  refine zs_iload_n (n := 15) dX11_lotAt_14 rfl rfl ?_
  refine zs_aload_n (n := 16) dX11_lotAt_15 rfl rfl ?_
  refine zs_getr (b := (Λ 4)) (n := 19) dX11_lotAt_16 gf_X11_26 (hR.kd (lvC h3 (by omega))) (hR.pt (lvC h3 (by omega)) rfl (by decide)) rfl ?_
  refine zs_getv (x := (sV S 4 323)) (n := 22) dX11_lotAt_19 gf_X11_173 (hR.kd (lvC h3 (by omega))) (hR.iv (lvC h3 (by omega)) (by decide) (by decide)) rfl ?_
  refine zs_icmp_lt (tgt := 35) (n := 25) dX11_lotAt_22 (by decide) rfl (fun h => absurd h hx8) (fun _ => ?_)
  exact zs_throw thr_X11_lotAt_25 rfl (by simp) (Nat.le_refl _) (Nat.le_refl _) hQ
theorem f_diary {i n : Nat} (hR : zRp Z Λ S M) (h3 : sc S 3 = 1) (hn : sV S 8 257 = nI n) (h1 : 1 ≤ i) (hi : i ≤ n) (hn8 : n ≤ 10) : zD Z l 3 mth_X11_diary [.ref (Λ 1), .int (nI i)] M 0 0 (some (.int (sW S 14 (i - 1)))) M := by
  intro Q hQ
  have hb0 := hR.bnd.1.1
  have hb1 := hR.bnd.1.2.1
  have hb2 := hR.bnd.1.2.2.1
  show zX Z l 3 mth_X11_diary 0 [(0, .ref (Λ 1)), (1, .int (nI i))] [] M 0 0 Q
  refine zs_iload_n (n := 1) dX11_diary_0 rfl rfl ?_
  refine zs_iconst (v := 1) (n := 2) dX11_diary_1 (by decide) rfl ?_
  refine zs_icmp_lt (tgt := 16) (n := 5) dX11_diary_2 (by decide) rfl (fun h => absurd h (nI_nlt (b := 1) h1 (by omega))) (fun _ => ?_)
  refine zs_iload_n (n := 6) dX11_diary_5 rfl rfl ?_
  refine zs_aload_n (n := 7) dX11_diary_6 rfl rfl ?_
  refine zs_getr (b := (Λ 8)) (n := 10) dX11_diary_7 gf_X11_56 (hR.kd (lvC h3 (by omega))) (hR.pt (lvC h3 (by omega)) rfl (by decide)) rfl ?_
  refine zs_getv (x := (sV S 8 257)) (n := 13) dX11_diary_10 gf_X11_314 (hR.kd (lvC h3 (by omega))) (hR.iv (lvC h3 (by omega)) (by decide) (by decide)) rfl ?_
  refine zs_icmp_le (tgt := 27) (n := 16) dX11_diary_13 (by decide) rfl (fun _ => ?_) (fun h => absurd (by rw [hn]; exact nI_le hi (by omega)) h)
  refine zs_aload_n (n := 28) dX11_diary_27 rfl rfl ?_
  refine zs_getr (b := (Λ 8)) (n := 31) dX11_diary_28 gf_X11_56 (hR.kd (lvC h3 (by omega))) (hR.pt (lvC h3 (by omega)) rfl (by decide)) rfl ?_
  refine zs_getr (b := (Λ 14)) (n := 34) dX11_diary_31 gf_X11_317 (hR.kd (lvC h3 (by omega))) (hR.pt (lvC h3 (by omega)) rfl (by decide)) rfl ?_
  refine zs_iload_n (n := 35) dX11_diary_34 rfl rfl ?_
  refine zs_iconst (v := 1) (n := 36) dX11_diary_35 (by decide) rfl ?_
  refine zs_isub (n := 37) dX11_diary_36 rfl ?_
  rw [show (nI i - 1 : Int32) = nI (i - 1) from pk_sub (b := 1) (by omega)]
  refine zs_ialdv (x := (sW S 14 (i - 1))) (n := 38) dX11_diary_37 (hR.kd (lvC h3 (by omega))) (by rw [show mN M (Λ 14) = 10 from (hR.ln (lvC h3 (by omega)) rfl (by decide))]; exact vp_in_nI (by first | exact (show i - 1 < 10 from by omega) | omega) (by omega)) (by rw [nI_clamp (by omega)]; exact hR.av (lvC h3 (by omega))) rfl ?_
  refine zs_ireturn dX11_diary_38 ⟨_, rfl, rfl⟩ ?_
  exact hQ
theorem f_diary_0 {p : Int32} (hR : zRp Z Λ S M) (h3 : sc S 3 = 1) (hx9 : p < 1) : zTw Z l 3 mth_X11_diary [.ref (Λ 1), .int p] M 1 6 5 M := by
  intro Q hQ
  have hb0 := hR.bnd.1.1
  have hb1 := hR.bnd.1.2.1
  have hb2 := hR.bnd.1.2.2.1
  show zX Z l 3 mth_X11_diary 0 [(0, .ref (Λ 1)), (1, .int p)] [] M 1 6 Q
  refine zs_iload_n (n := 1) dX11_diary_0 rfl rfl ?_
  refine zs_iconst (v := 1) (n := 2) dX11_diary_1 (by decide) rfl ?_
  refine zs_icmp_lt (tgt := 16) (n := 5) dX11_diary_2 (by decide) rfl (fun _ => ?_) (fun h => absurd hx9 h)
  exact zs_throw thr_X11_diary_16 rfl (by simp) (Nat.le_refl _) (Nat.le_refl _) hQ
theorem f_diary_1 {p : Int32} (hR : zRp Z Λ S M) (h3 : sc S 3 = 1) (hx9 : ¬ p < 1) (hx8 : ¬ p ≤ sV S 8 257) : zTw Z l 3 mth_X11_diary [.ref (Λ 1), .int p] M 1 6 5 M := by
  intro Q hQ
  have hb0 := hR.bnd.1.1
  have hb1 := hR.bnd.1.2.1
  have hb2 := hR.bnd.1.2.2.1
  show zX Z l 3 mth_X11_diary 0 [(0, .ref (Λ 1)), (1, .int p)] [] M 1 6 Q
  refine zs_iload_n (n := 1) dX11_diary_0 rfl rfl ?_
  refine zs_iconst (v := 1) (n := 2) dX11_diary_1 (by decide) rfl ?_
  refine zs_icmp_lt (tgt := 16) (n := 5) dX11_diary_2 (by decide) rfl (fun h => absurd h hx9) (fun _ => ?_)
  refine zs_iload_n (n := 6) dX11_diary_5 rfl rfl ?_
  refine zs_aload_n (n := 7) dX11_diary_6 rfl rfl ?_
  refine zs_getr (b := (Λ 8)) (n := 10) dX11_diary_7 gf_X11_56 (hR.kd (lvC h3 (by omega))) (hR.pt (lvC h3 (by omega)) rfl (by decide)) rfl ?_
  refine zs_getv (x := (sV S 8 257)) (n := 13) dX11_diary_10 gf_X11_314 (hR.kd (lvC h3 (by omega))) (hR.iv (lvC h3 (by omega)) (by decide) (by decide)) rfl ?_
  refine zs_icmp_le (tgt := 27) (n := 16) dX11_diary_13 (by decide) rfl (fun h => absurd h hx8) (fun _ => ?_)
  exact zs_throw thr_X11_diary_16 rfl (by simp) (Nat.le_refl _) (Nat.le_refl _) hQ
theorem f_turnAt {i k : Nat} (hR : zRp Z Λ S M) (h3 : sc S 3 = 1) (hi : i < sc S 0) (hk : k < sc S (10 + i)) : zD Z l 3 mth_X11_turnAt [.ref (Λ 1), .int (nI i), .int (nI k)] M 0 0 (some (.int (sV S (140 + sT S i k) 160))) M := by
  intro Q hQ
  have hb0 := hR.bnd.1.1
  have hb1 := hR.bnd.1.2.1
  have hb2 := hR.bnd.1.2.2.1
  have hb9 := hR.bnd.1.2.2.2 i
  show zX Z l 3 mth_X11_turnAt 0 [(0, .ref (Λ 1)), (1, .int (nI i)), (2, .int (nI k))] [] M 0 0 Q
  refine zs_aload_n (n := 1) dX11_turnAt_0 rfl rfl ?_
  refine zs_iload_n (n := 2) dX11_turnAt_1 rfl rfl ?_
  refine zc_V (n := 5) (As := [.int (nI i)]) (ci := 16) (mc := 0) (ms := 0) dX11_turnAt_2 ok_X11_requirePitch ⟨ml_X11_99, im_X11_requirePitch, sl_X11_requirePitch⟩ rfl (hR.kd (lvC h3 (by omega))) rfl (Nat.le_of_ble_eq_true rfl) (by simp) (by omega) (Nat.le_refl _) (Nat.le_refl _) rfl rfl (c_requirePitch hR h3 hi) ?_
  refine zs_aload_n (n := 6) dX11_turnAt_5 rfl rfl ?_
  refine zs_getr (b := (Λ 2)) (n := 9) dX11_turnAt_6 gf_X11_10 (hR.kd (lvC h3 (by omega))) (hR.pt (lvC h3 (by omega)) rfl (by decide)) rfl ?_
  refine zs_getr (b := (Λ 15)) (n := 12) dX11_turnAt_9 gf_X11_75 (hR.kd (lvC h3 (by omega))) (hR.pt (lvC h3 (by omega)) rfl (by decide)) rfl ?_
  refine zs_iload_n (n := 13) dX11_turnAt_12 rfl rfl ?_
  refine zc_getb (c := sc S 0) (b := (Λ (100 + i))) (n := 16) dX11_turnAt_13 ml_X11_103 (hR.lP h3) hi rfl (by simp) (by omega) rfl ?_
  refine zs_castS (ci := 11) (n := 19) dX11_turnAt_16 rfl cl_X11_90 (hR.kP hi) rfl ?_
  refine zs_getr (b := (Λ (120 + i))) (n := 22) dX11_turnAt_19 gf_X11_190 (hR.kP hi) (hR.pT hi) rfl ?_
  refine zs_astore_n (n := 23) dX11_turnAt_22 (by decide) rfl ?_
  refine zs_iload_n (n := 24) dX11_turnAt_23 rfl rfl ?_
  refine zs_aload_n (n := 25) dX11_turnAt_24 rfl rfl ?_
  refine zc_size (c := sc S (10 + i)) (n := 28) dX11_turnAt_25 ml_X11_79 (hR.lT hi) (by simp) (by omega) rfl ?_
  refine zc_S (n := 31) (As := [.int (nI k), .int (nI (sc S (10 + i)))]) (mc := 0) (ms := 0) dX11_turnAt_28 ok_X11_isIndex ⟨ml_X11_208, st_X11_isIndex⟩ rfl (Nat.le_of_ble_eq_true rfl) (by simp) (by omega) (Nat.le_refl _) (Nat.le_refl _) rfl rfl m_isIndex ?_
  refine zs_if_ne (tgt := 44) (n := 34) dX11_turnAt_31 (by decide) rfl (fun _ => ?_) (fun h => absurd h (zix1 hk (by omega)))
  refine zs_aload_n (n := 45) dX11_turnAt_44 rfl rfl ?_
  refine zs_iload_n (n := 46) dX11_turnAt_45 rfl rfl ?_
  refine zc_getb (c := sc S (10 + i)) (b := (Λ (160 + 8 * i + k))) (n := 49) dX11_turnAt_46 ml_X11_103 (hR.lT hi) hk rfl (by simp) (by omega) rfl ?_
  refine zs_castS (ci := 13) (n := 52) dX11_turnAt_49 rfl cl_X11_198 (hR.kK hi hk) rfl ?_
  refine zs_getr (b := (Λ (140 + (sT S i k)))) (n := 55) dX11_turnAt_52 gf_X11_226 (hR.kK hi hk) (hR.act hi hk) rfl ?_
  refine zs_getv (x := (sV S (140 + (sT S i k)) 160)) (n := 58) dX11_turnAt_55 gf_X11_230 (hR.kA (hR.actb hi hk)) (hR.iv (lvA (hR.actb hi hk)) (by decide) (by decide)) rfl ?_
  refine zs_ireturn dX11_turnAt_58 ⟨_, rfl, rfl⟩ ?_
  exact hQ
theorem f_turnAt_0 {p q : Int32} (hR : zRp Z Λ S M) (h3 : sc S 3 = 1) (hx9 : ¬ (¬ p < 0 ∧ ¬ nI (sc S 0) ≤ p)) : zTw Z l 3 mth_X11_turnAt [.ref (Λ 1), .int p, .int q] M 1 6 2 M := by
  intro Q hQ
  have hb0 := hR.bnd.1.1
  have hb1 := hR.bnd.1.2.1
  have hb2 := hR.bnd.1.2.2.1
  show zX Z l 3 mth_X11_turnAt 0 [(0, .ref (Λ 1)), (1, .int p), (2, .int q)] [] M 1 6 Q
  refine zs_aload_n (n := 1) dX11_turnAt_0 rfl rfl ?_
  refine zs_iload_n (n := 2) dX11_turnAt_1 rfl rfl ?_
  exact zt_V (As := [.int p]) (ci := 16) (mc := 1) (ms := 6) (nc1 := 0) (ns1 := 0) dX11_turnAt_2 ok_X11_requirePitch ⟨ml_X11_99, im_X11_requirePitch, sl_X11_requirePitch⟩ rfl (hR.kd (lvC h3 (by omega))) rfl (Nat.le_of_ble_eq_true rfl) (by simp) (by omega) (Nat.le_refl _) (Nat.le_refl _) rfl (t_requirePitch hR h3 hx9) (Or.inl ⟨rfl, hQ⟩)
theorem f_turnAt_1 {i : Nat} {q : Int32} (hR : zRp Z Λ S M) (h3 : sc S 3 = 1) (hi : i < sc S 0) (hx9 : ¬ (¬ q < 0 ∧ ¬ nI (sc S (10 + i)) ≤ q)) : zTw Z l 3 mth_X11_turnAt [.ref (Λ 1), .int (nI i), .int q] M 1 6 5 M := by
  intro Q hQ
  have hb0 := hR.bnd.1.1
  have hb1 := hR.bnd.1.2.1
  have hb2 := hR.bnd.1.2.2.1
  show zX Z l 3 mth_X11_turnAt 0 [(0, .ref (Λ 1)), (1, .int (nI i)), (2, .int q)] [] M 1 6 Q
  refine zs_aload_n (n := 1) dX11_turnAt_0 rfl rfl ?_
  refine zs_iload_n (n := 2) dX11_turnAt_1 rfl rfl ?_
  refine zc_V (n := 5) (As := [.int (nI i)]) (ci := 16) (mc := 0) (ms := 0) dX11_turnAt_2 ok_X11_requirePitch ⟨ml_X11_99, im_X11_requirePitch, sl_X11_requirePitch⟩ rfl (hR.kd (lvC h3 (by omega))) rfl (Nat.le_of_ble_eq_true rfl) (by simp) (by omega) (Nat.le_refl _) (Nat.le_refl _) rfl rfl (c_requirePitch hR h3 hi) ?_
  refine zs_aload_n (n := 6) dX11_turnAt_5 rfl rfl ?_
  refine zs_getr (b := (Λ 2)) (n := 9) dX11_turnAt_6 gf_X11_10 (hR.kd (lvC h3 (by omega))) (hR.pt (lvC h3 (by omega)) rfl (by decide)) rfl ?_
  refine zs_getr (b := (Λ 15)) (n := 12) dX11_turnAt_9 gf_X11_75 (hR.kd (lvC h3 (by omega))) (hR.pt (lvC h3 (by omega)) rfl (by decide)) rfl ?_
  refine zs_iload_n (n := 13) dX11_turnAt_12 rfl rfl ?_
  refine zc_getb (c := sc S 0) (b := (Λ (100 + i))) (n := 16) dX11_turnAt_13 ml_X11_103 (hR.lP h3) hi rfl (by simp) (by omega) rfl ?_
  refine zs_castS (ci := 11) (n := 19) dX11_turnAt_16 rfl cl_X11_90 (hR.kP hi) rfl ?_
  refine zs_getr (b := (Λ (120 + i))) (n := 22) dX11_turnAt_19 gf_X11_190 (hR.kP hi) (hR.pT hi) rfl ?_
  refine zs_astore_n (n := 23) dX11_turnAt_22 (by decide) rfl ?_
  refine zs_iload_n (n := 24) dX11_turnAt_23 rfl rfl ?_
  refine zs_aload_n (n := 25) dX11_turnAt_24 rfl rfl ?_
  refine zc_size (c := sc S (10 + i)) (n := 28) dX11_turnAt_25 ml_X11_79 (hR.lT hi) (by simp) (by omega) rfl ?_
  refine zc_S (n := 31) (As := [.int q, .int (nI (sc S (10 + i)))]) (mc := 0) (ms := 0) dX11_turnAt_28 ok_X11_isIndex ⟨ml_X11_208, st_X11_isIndex⟩ rfl (Nat.le_of_ble_eq_true rfl) (by simp) (by omega) (Nat.le_refl _) (Nat.le_refl _) rfl rfl m_isIndex ?_
  refine zs_if_ne (tgt := 44) (n := 34) dX11_turnAt_31 (by decide) rfl (fun h => absurd (zix0 hx9) h) (fun _ => ?_)
  exact zs_throw thr_X11_turnAt_34 rfl (by simp) (Nat.le_refl _) (Nat.le_refl _) hQ
theorem c_requirePlayedTurn {i k : Nat} (hR : zRp Z Λ S M) (h3 : sc S 3 = 1) (hi : i < sc S 0) (hk : k < sc S (10 + i)) (hw : ¬ sV S (160 + 8 * i + k) 423 = 0) : zD Z l 3 mth_X11_requirePlayedTurn [.ref (Λ 1), .int (nI i), .int (nI k)] M 0 0 none M := by
  intro Q hQ
  have hb0 := hR.bnd.1.1
  have hb1 := hR.bnd.1.2.1
  have hb2 := hR.bnd.1.2.2.1
  have hb9 := hR.bnd.1.2.2.2 i
  show zX Z l 3 mth_X11_requirePlayedTurn 0 [(0, .ref (Λ 1)), (1, .int (nI i)), (2, .int (nI k))] [] M 0 0 Q
  refine zs_aload_n (n := 1) dX11_requirePlayedTurn_0 rfl rfl ?_
  refine zs_getr (b := (Λ 2)) (n := 4) dX11_requirePlayedTurn_1 gf_X11_10 (hR.kd (lvC h3 (by omega))) (hR.pt (lvC h3 (by omega)) rfl (by decide)) rfl ?_
  refine zs_getr (b := (Λ 15)) (n := 7) dX11_requirePlayedTurn_4 gf_X11_75 (hR.kd (lvC h3 (by omega))) (hR.pt (lvC h3 (by omega)) rfl (by decide)) rfl ?_
  refine zs_iload_n (n := 8) dX11_requirePlayedTurn_7 rfl rfl ?_
  refine zc_getb (c := sc S 0) (b := (Λ (100 + i))) (n := 11) dX11_requirePlayedTurn_8 ml_X11_103 (hR.lP h3) hi rfl (by simp) (by omega) rfl ?_
  refine zs_castS (ci := 11) (n := 14) dX11_requirePlayedTurn_11 rfl cl_X11_90 (hR.kP hi) rfl ?_
  refine zs_getr (b := (Λ (120 + i))) (n := 17) dX11_requirePlayedTurn_14 gf_X11_190 (hR.kP hi) (hR.pT hi) rfl ?_
  refine zs_astore_n (n := 18) dX11_requirePlayedTurn_17 (by decide) rfl ?_
  refine zs_iload_n (n := 19) dX11_requirePlayedTurn_18 rfl rfl ?_
  refine zs_aload_n (n := 20) dX11_requirePlayedTurn_19 rfl rfl ?_
  refine zc_size (c := sc S (10 + i)) (n := 23) dX11_requirePlayedTurn_20 ml_X11_79 (hR.lT hi) (by simp) (by omega) rfl ?_
  refine zc_S (n := 26) (As := [.int (nI k), .int (nI (sc S (10 + i)))]) (mc := 0) (ms := 0) dX11_requirePlayedTurn_23 ok_X11_isIndex ⟨ml_X11_208, st_X11_isIndex⟩ rfl (Nat.le_of_ble_eq_true rfl) (by simp) (by omega) (Nat.le_refl _) (Nat.le_refl _) rfl rfl m_isIndex ?_
  refine zs_if_eq (tgt := 43) (n := 29) dX11_requirePlayedTurn_26 (by decide) rfl (fun h => absurd h (zix1 hk (by omega))) (fun _ => ?_)
  refine zs_aload_n (n := 30) dX11_requirePlayedTurn_29 rfl rfl ?_
  refine zs_iload_n (n := 31) dX11_requirePlayedTurn_30 rfl rfl ?_
  refine zc_getb (c := sc S (10 + i)) (b := (Λ (160 + 8 * i + k))) (n := 34) dX11_requirePlayedTurn_31 ml_X11_103 (hR.lT hi) hk rfl (by simp) (by omega) rfl ?_
  refine zs_castS (ci := 13) (n := 37) dX11_requirePlayedTurn_34 rfl cl_X11_198 (hR.kK hi hk) rfl ?_
  refine zs_getv (x := (sV S (160 + 8 * i + k) 423)) (n := 40) dX11_requirePlayedTurn_37 gf_X11_375 (hR.kK hi hk) (hR.iv (lvK hi hk) (by decide) (by decide)) rfl ?_
  refine zs_if_ne (tgt := 54) (n := 43) dX11_requirePlayedTurn_40 (by decide) rfl (fun _ => ?_) (fun h => absurd h hw)
  refine zs_return dX11_requirePlayedTurn_54 rfl ?_
  exact hQ
theorem t_requirePlayedTurn0 {i : Nat} {q : Int32} (hR : zRp Z Λ S M) (h3 : sc S 3 = 1) (hi : i < sc S 0) (hx9 : ¬ (¬ q < 0 ∧ ¬ nI (sc S (10 + i)) ≤ q)) : zTw Z l 3 mth_X11_requirePlayedTurn [.ref (Λ 1), .int (nI i), .int q] M 1 6 5 M := by
  intro Q hQ
  have hb0 := hR.bnd.1.1
  have hb1 := hR.bnd.1.2.1
  have hb2 := hR.bnd.1.2.2.1
  show zX Z l 3 mth_X11_requirePlayedTurn 0 [(0, .ref (Λ 1)), (1, .int (nI i)), (2, .int q)] [] M 1 6 Q
  refine zs_aload_n (n := 1) dX11_requirePlayedTurn_0 rfl rfl ?_
  refine zs_getr (b := (Λ 2)) (n := 4) dX11_requirePlayedTurn_1 gf_X11_10 (hR.kd (lvC h3 (by omega))) (hR.pt (lvC h3 (by omega)) rfl (by decide)) rfl ?_
  refine zs_getr (b := (Λ 15)) (n := 7) dX11_requirePlayedTurn_4 gf_X11_75 (hR.kd (lvC h3 (by omega))) (hR.pt (lvC h3 (by omega)) rfl (by decide)) rfl ?_
  refine zs_iload_n (n := 8) dX11_requirePlayedTurn_7 rfl rfl ?_
  refine zc_getb (c := sc S 0) (b := (Λ (100 + i))) (n := 11) dX11_requirePlayedTurn_8 ml_X11_103 (hR.lP h3) hi rfl (by simp) (by omega) rfl ?_
  refine zs_castS (ci := 11) (n := 14) dX11_requirePlayedTurn_11 rfl cl_X11_90 (hR.kP hi) rfl ?_
  refine zs_getr (b := (Λ (120 + i))) (n := 17) dX11_requirePlayedTurn_14 gf_X11_190 (hR.kP hi) (hR.pT hi) rfl ?_
  refine zs_astore_n (n := 18) dX11_requirePlayedTurn_17 (by decide) rfl ?_
  refine zs_iload_n (n := 19) dX11_requirePlayedTurn_18 rfl rfl ?_
  refine zs_aload_n (n := 20) dX11_requirePlayedTurn_19 rfl rfl ?_
  refine zc_size (c := sc S (10 + i)) (n := 23) dX11_requirePlayedTurn_20 ml_X11_79 (hR.lT hi) (by simp) (by omega) rfl ?_
  refine zc_S (n := 26) (As := [.int q, .int (nI (sc S (10 + i)))]) (mc := 0) (ms := 0) dX11_requirePlayedTurn_23 ok_X11_isIndex ⟨ml_X11_208, st_X11_isIndex⟩ rfl (Nat.le_of_ble_eq_true rfl) (by simp) (by omega) (Nat.le_refl _) (Nat.le_refl _) rfl rfl m_isIndex ?_
  refine zs_if_eq (tgt := 43) (n := 29) dX11_requirePlayedTurn_26 (by decide) rfl (fun _ => ?_) (fun h => absurd (zix0 hx9) h)
  exact zs_throw thr_X11_requirePlayedTurn_43 rfl (by simp) (Nat.le_refl _) (Nat.le_refl _) hQ
theorem t_requirePlayedTurn1 {i k : Nat} (hR : zRp Z Λ S M) (h3 : sc S 3 = 1) (hi : i < sc S 0) (hk : k < sc S (10 + i)) (hw : sV S (160 + 8 * i + k) 423 = 0) : zTw Z l 3 mth_X11_requirePlayedTurn [.ref (Λ 1), .int (nI i), .int (nI k)] M 1 6 5 M := by
  intro Q hQ
  have hb0 := hR.bnd.1.1
  have hb1 := hR.bnd.1.2.1
  have hb2 := hR.bnd.1.2.2.1
  have hb9 := hR.bnd.1.2.2.2 i
  show zX Z l 3 mth_X11_requirePlayedTurn 0 [(0, .ref (Λ 1)), (1, .int (nI i)), (2, .int (nI k))] [] M 1 6 Q
  refine zs_aload_n (n := 1) dX11_requirePlayedTurn_0 rfl rfl ?_
  refine zs_getr (b := (Λ 2)) (n := 4) dX11_requirePlayedTurn_1 gf_X11_10 (hR.kd (lvC h3 (by omega))) (hR.pt (lvC h3 (by omega)) rfl (by decide)) rfl ?_
  refine zs_getr (b := (Λ 15)) (n := 7) dX11_requirePlayedTurn_4 gf_X11_75 (hR.kd (lvC h3 (by omega))) (hR.pt (lvC h3 (by omega)) rfl (by decide)) rfl ?_
  refine zs_iload_n (n := 8) dX11_requirePlayedTurn_7 rfl rfl ?_
  refine zc_getb (c := sc S 0) (b := (Λ (100 + i))) (n := 11) dX11_requirePlayedTurn_8 ml_X11_103 (hR.lP h3) hi rfl (by simp) (by omega) rfl ?_
  refine zs_castS (ci := 11) (n := 14) dX11_requirePlayedTurn_11 rfl cl_X11_90 (hR.kP hi) rfl ?_
  refine zs_getr (b := (Λ (120 + i))) (n := 17) dX11_requirePlayedTurn_14 gf_X11_190 (hR.kP hi) (hR.pT hi) rfl ?_
  refine zs_astore_n (n := 18) dX11_requirePlayedTurn_17 (by decide) rfl ?_
  refine zs_iload_n (n := 19) dX11_requirePlayedTurn_18 rfl rfl ?_
  refine zs_aload_n (n := 20) dX11_requirePlayedTurn_19 rfl rfl ?_
  refine zc_size (c := sc S (10 + i)) (n := 23) dX11_requirePlayedTurn_20 ml_X11_79 (hR.lT hi) (by simp) (by omega) rfl ?_
  refine zc_S (n := 26) (As := [.int (nI k), .int (nI (sc S (10 + i)))]) (mc := 0) (ms := 0) dX11_requirePlayedTurn_23 ok_X11_isIndex ⟨ml_X11_208, st_X11_isIndex⟩ rfl (Nat.le_of_ble_eq_true rfl) (by simp) (by omega) (Nat.le_refl _) (Nat.le_refl _) rfl rfl m_isIndex ?_
  refine zs_if_eq (tgt := 43) (n := 29) dX11_requirePlayedTurn_26 (by decide) rfl (fun h => absurd h (zix1 hk (by omega))) (fun _ => ?_)
  refine zs_aload_n (n := 30) dX11_requirePlayedTurn_29 rfl rfl ?_
  refine zs_iload_n (n := 31) dX11_requirePlayedTurn_30 rfl rfl ?_
  refine zc_getb (c := sc S (10 + i)) (b := (Λ (160 + 8 * i + k))) (n := 34) dX11_requirePlayedTurn_31 ml_X11_103 (hR.lT hi) hk rfl (by simp) (by omega) rfl ?_
  refine zs_castS (ci := 13) (n := 37) dX11_requirePlayedTurn_34 rfl cl_X11_198 (hR.kK hi hk) rfl ?_
  refine zs_getv (x := (sV S (160 + 8 * i + k) 423)) (n := 40) dX11_requirePlayedTurn_37 gf_X11_375 (hR.kK hi hk) (hR.iv (lvK hi hk) (by decide) (by decide)) rfl ?_
  refine zs_if_ne (tgt := 54) (n := 43) dX11_requirePlayedTurn_40 (by decide) rfl (fun h => absurd hw h) (fun _ => ?_)
  exact zs_throw thr_X11_requirePlayedTurn_43 rfl (by simp) (Nat.le_refl _) (Nat.le_refl _) hQ
theorem f_isBroken {i k : Nat} (hR : zRp Z Λ S M) (h3 : sc S 3 = 1) (hi : i < sc S 0) (hp : ¬ sV S 7 228 = 0) (hk : k < sc S (10 + i)) (hw : ¬ sV S (160 + 8 * i + k) 423 = 0) (hbr : sV S (160 + 8 * i + k) 424 = 0 ∨ sV S (160 + 8 * i + k) 424 = 1) : zD Z l 4 mth_X11_isBroken [.ref (Λ 1), .int (nI i), .int (nI k)] M 0 0 (some (.int (sV S (160 + 8 * i + k) 424))) M := by
  intro Q hQ
  have hb0 := hR.bnd.1.1
  have hb1 := hR.bnd.1.2.1
  have hb2 := hR.bnd.1.2.2.1
  show zX Z l 4 mth_X11_isBroken 0 [(0, .ref (Λ 1)), (1, .int (nI i)), (2, .int (nI k))] [] M 0 0 Q
  refine zs_aload_n (n := 1) dX11_isBroken_0 rfl rfl ?_
  refine zs_iload_n (n := 2) dX11_isBroken_1 rfl rfl ?_
  refine zc_V (n := 5) (As := [.int (nI i)]) (ci := 16) (mc := 0) (ms := 0) dX11_isBroken_2 ok_X11_requirePitch ⟨ml_X11_99, im_X11_requirePitch, sl_X11_requirePitch⟩ rfl (hR.kd (lvC h3 (by omega))) rfl (Nat.le_of_ble_eq_true rfl) (by simp) (by omega) (Nat.le_refl _) (Nat.le_refl _) rfl rfl (c_requirePitch hR h3 hi) ?_
  refine zs_aload_n (n := 6) dX11_isBroken_5 rfl rfl ?_
  refine zc_V (n := 9) (As := []) (ci := 16) (mc := 0) (ms := 0) dX11_isBroken_6 ok_X11_requirePlayed ⟨ml_X11_275, im_X11_requirePlayed, sl_X11_requirePlayed⟩ rfl (hR.kd (lvC h3 (by omega))) rfl (Nat.le_of_ble_eq_true rfl) (by simp) (by omega) (Nat.le_refl _) (Nat.le_refl _) rfl rfl (c_requirePlayed hR h3 hp) ?_
  refine zs_aload_n (n := 10) dX11_isBroken_9 rfl rfl ?_
  refine zs_iload_n (n := 11) dX11_isBroken_10 rfl rfl ?_
  refine zs_iload_n (n := 12) dX11_isBroken_11 rfl rfl ?_
  refine zc_V (n := 15) (As := [.int (nI i), .int (nI k)]) (ci := 16) (mc := 0) (ms := 0) dX11_isBroken_12 ok_X11_requirePlayedTurn ⟨ml_X11_278, im_X11_requirePlayedTurn, sl_X11_requirePlayedTurn⟩ rfl (hR.kd (lvC h3 (by omega))) rfl (Nat.le_of_ble_eq_true rfl) (by simp) (by omega) (Nat.le_refl _) (Nat.le_refl _) rfl rfl (c_requirePlayedTurn hR h3 hi hk hw) ?_
  refine zs_aload_n (n := 16) dX11_isBroken_15 rfl rfl ?_
  refine zs_getr (b := (Λ 2)) (n := 19) dX11_isBroken_16 gf_X11_10 (hR.kd (lvC h3 (by omega))) (hR.pt (lvC h3 (by omega)) rfl (by decide)) rfl ?_
  refine zs_getr (b := (Λ 15)) (n := 22) dX11_isBroken_19 gf_X11_75 (hR.kd (lvC h3 (by omega))) (hR.pt (lvC h3 (by omega)) rfl (by decide)) rfl ?_
  refine zs_iload_n (n := 23) dX11_isBroken_22 rfl rfl ?_
  refine zc_getb (c := sc S 0) (b := (Λ (100 + i))) (n := 26) dX11_isBroken_23 ml_X11_103 (hR.lP h3) hi rfl (by simp) (by omega) rfl ?_
  refine zs_castS (ci := 11) (n := 29) dX11_isBroken_26 rfl cl_X11_90 (hR.kP hi) rfl ?_
  refine zs_getr (b := (Λ (120 + i))) (n := 32) dX11_isBroken_29 gf_X11_190 (hR.kP hi) (hR.pT hi) rfl ?_
  refine zs_iload_n (n := 33) dX11_isBroken_32 rfl rfl ?_
  refine zc_getb (c := sc S (10 + i)) (b := (Λ (160 + 8 * i + k))) (n := 36) dX11_isBroken_33 ml_X11_103 (hR.lT hi) hk rfl (by simp) (by omega) rfl ?_
  refine zs_castS (ci := 13) (n := 39) dX11_isBroken_36 rfl cl_X11_198 (hR.kK hi hk) rfl ?_
  refine zs_getv (x := (sV S (160 + 8 * i + k) 424)) (n := 42) dX11_isBroken_39 gf_X11_285 (hR.kK hi hk) (hR.iv (lvK hi hk) (by decide) (by decide)) rfl ?_
  refine zs_ireturn dX11_isBroken_42 ⟨_, rfl, (by rcases hbr with h | h <;> rw [h] <;> decide)⟩ ?_
  exact hQ
theorem f_isBroken_0 {p q : Int32} (hR : zRp Z Λ S M) (h3 : sc S 3 = 1) (hx9 : ¬ (¬ p < 0 ∧ ¬ nI (sc S 0) ≤ p)) : zTw Z l 4 mth_X11_isBroken [.ref (Λ 1), .int p, .int q] M 1 6 2 M := by
  intro Q hQ
  have hb0 := hR.bnd.1.1
  have hb1 := hR.bnd.1.2.1
  have hb2 := hR.bnd.1.2.2.1
  show zX Z l 4 mth_X11_isBroken 0 [(0, .ref (Λ 1)), (1, .int p), (2, .int q)] [] M 1 6 Q
  refine zs_aload_n (n := 1) dX11_isBroken_0 rfl rfl ?_
  refine zs_iload_n (n := 2) dX11_isBroken_1 rfl rfl ?_
  exact zt_V (As := [.int p]) (ci := 16) (mc := 1) (ms := 6) (nc1 := 0) (ns1 := 0) dX11_isBroken_2 ok_X11_requirePitch ⟨ml_X11_99, im_X11_requirePitch, sl_X11_requirePitch⟩ rfl (hR.kd (lvC h3 (by omega))) rfl (Nat.le_of_ble_eq_true rfl) (by simp) (by omega) (Nat.le_refl _) (Nat.le_refl _) rfl (t_requirePitch hR h3 hx9) (Or.inl ⟨rfl, hQ⟩)
theorem f_isBroken_1 {i : Nat} {q : Int32} (hR : zRp Z Λ S M) (h3 : sc S 3 = 1) (hi : i < sc S 0) (hp : sV S 7 228 = 0) : zTw Z l 4 mth_X11_isBroken [.ref (Λ 1), .int (nI i), .int q] M 1 6 1 M := by
  intro Q hQ
  have hb0 := hR.bnd.1.1
  have hb1 := hR.bnd.1.2.1
  have hb2 := hR.bnd.1.2.2.1
  show zX Z l 4 mth_X11_isBroken 0 [(0, .ref (Λ 1)), (1, .int (nI i)), (2, .int q)] [] M 1 6 Q
  refine zs_aload_n (n := 1) dX11_isBroken_0 rfl rfl ?_
  refine zs_iload_n (n := 2) dX11_isBroken_1 rfl rfl ?_
  refine zc_V (n := 5) (As := [.int (nI i)]) (ci := 16) (mc := 0) (ms := 0) dX11_isBroken_2 ok_X11_requirePitch ⟨ml_X11_99, im_X11_requirePitch, sl_X11_requirePitch⟩ rfl (hR.kd (lvC h3 (by omega))) rfl (Nat.le_of_ble_eq_true rfl) (by simp) (by omega) (Nat.le_refl _) (Nat.le_refl _) rfl rfl (c_requirePitch hR h3 hi) ?_
  refine zs_aload_n (n := 6) dX11_isBroken_5 rfl rfl ?_
  exact zt_V (As := []) (ci := 16) (mc := 1) (ms := 6) (nc1 := 0) (ns1 := 0) dX11_isBroken_6 ok_X11_requirePlayed ⟨ml_X11_275, im_X11_requirePlayed, sl_X11_requirePlayed⟩ rfl (hR.kd (lvC h3 (by omega))) rfl (Nat.le_of_ble_eq_true rfl) (by simp) (by omega) (Nat.le_refl _) (Nat.le_refl _) rfl (t_requirePlayed hR h3 hp) (Or.inl ⟨rfl, hQ⟩)
theorem f_isBroken_2 {i : Nat} {q : Int32} (hR : zRp Z Λ S M) (h3 : sc S 3 = 1) (hi : i < sc S 0) (hp : ¬ sV S 7 228 = 0) (hx9 : ¬ (¬ q < 0 ∧ ¬ nI (sc S (10 + i)) ≤ q)) : zTw Z l 4 mth_X11_isBroken [.ref (Λ 1), .int (nI i), .int q] M 1 6 5 M := by
  intro Q hQ
  have hb0 := hR.bnd.1.1
  have hb1 := hR.bnd.1.2.1
  have hb2 := hR.bnd.1.2.2.1
  show zX Z l 4 mth_X11_isBroken 0 [(0, .ref (Λ 1)), (1, .int (nI i)), (2, .int q)] [] M 1 6 Q
  refine zs_aload_n (n := 1) dX11_isBroken_0 rfl rfl ?_
  refine zs_iload_n (n := 2) dX11_isBroken_1 rfl rfl ?_
  refine zc_V (n := 5) (As := [.int (nI i)]) (ci := 16) (mc := 0) (ms := 0) dX11_isBroken_2 ok_X11_requirePitch ⟨ml_X11_99, im_X11_requirePitch, sl_X11_requirePitch⟩ rfl (hR.kd (lvC h3 (by omega))) rfl (Nat.le_of_ble_eq_true rfl) (by simp) (by omega) (Nat.le_refl _) (Nat.le_refl _) rfl rfl (c_requirePitch hR h3 hi) ?_
  refine zs_aload_n (n := 6) dX11_isBroken_5 rfl rfl ?_
  refine zc_V (n := 9) (As := []) (ci := 16) (mc := 0) (ms := 0) dX11_isBroken_6 ok_X11_requirePlayed ⟨ml_X11_275, im_X11_requirePlayed, sl_X11_requirePlayed⟩ rfl (hR.kd (lvC h3 (by omega))) rfl (Nat.le_of_ble_eq_true rfl) (by simp) (by omega) (Nat.le_refl _) (Nat.le_refl _) rfl rfl (c_requirePlayed hR h3 hp) ?_
  refine zs_aload_n (n := 10) dX11_isBroken_9 rfl rfl ?_
  refine zs_iload_n (n := 11) dX11_isBroken_10 rfl rfl ?_
  refine zs_iload_n (n := 12) dX11_isBroken_11 rfl rfl ?_
  exact zt_V (As := [.int (nI i), .int q]) (ci := 16) (mc := 1) (ms := 6) (nc1 := 0) (ns1 := 0) dX11_isBroken_12 ok_X11_requirePlayedTurn ⟨ml_X11_278, im_X11_requirePlayedTurn, sl_X11_requirePlayedTurn⟩ rfl (hR.kd (lvC h3 (by omega))) rfl (Nat.le_of_ble_eq_true rfl) (by simp) (by omega) (Nat.le_refl _) (Nat.le_refl _) rfl (t_requirePlayedTurn0 hR h3 hi hx9) (Or.inl ⟨rfl, hQ⟩)
theorem f_isBroken_3 {i k : Nat} (hR : zRp Z Λ S M) (h3 : sc S 3 = 1) (hi : i < sc S 0) (hp : ¬ sV S 7 228 = 0) (hk : k < sc S (10 + i)) (hw : sV S (160 + 8 * i + k) 423 = 0) : zTw Z l 4 mth_X11_isBroken [.ref (Λ 1), .int (nI i), .int (nI k)] M 1 6 5 M := by
  intro Q hQ
  have hb0 := hR.bnd.1.1
  have hb1 := hR.bnd.1.2.1
  have hb2 := hR.bnd.1.2.2.1
  show zX Z l 4 mth_X11_isBroken 0 [(0, .ref (Λ 1)), (1, .int (nI i)), (2, .int (nI k))] [] M 1 6 Q
  refine zs_aload_n (n := 1) dX11_isBroken_0 rfl rfl ?_
  refine zs_iload_n (n := 2) dX11_isBroken_1 rfl rfl ?_
  refine zc_V (n := 5) (As := [.int (nI i)]) (ci := 16) (mc := 0) (ms := 0) dX11_isBroken_2 ok_X11_requirePitch ⟨ml_X11_99, im_X11_requirePitch, sl_X11_requirePitch⟩ rfl (hR.kd (lvC h3 (by omega))) rfl (Nat.le_of_ble_eq_true rfl) (by simp) (by omega) (Nat.le_refl _) (Nat.le_refl _) rfl rfl (c_requirePitch hR h3 hi) ?_
  refine zs_aload_n (n := 6) dX11_isBroken_5 rfl rfl ?_
  refine zc_V (n := 9) (As := []) (ci := 16) (mc := 0) (ms := 0) dX11_isBroken_6 ok_X11_requirePlayed ⟨ml_X11_275, im_X11_requirePlayed, sl_X11_requirePlayed⟩ rfl (hR.kd (lvC h3 (by omega))) rfl (Nat.le_of_ble_eq_true rfl) (by simp) (by omega) (Nat.le_refl _) (Nat.le_refl _) rfl rfl (c_requirePlayed hR h3 hp) ?_
  refine zs_aload_n (n := 10) dX11_isBroken_9 rfl rfl ?_
  refine zs_iload_n (n := 11) dX11_isBroken_10 rfl rfl ?_
  refine zs_iload_n (n := 12) dX11_isBroken_11 rfl rfl ?_
  exact zt_V (As := [.int (nI i), .int (nI k)]) (ci := 16) (mc := 1) (ms := 6) (nc1 := 0) (ns1 := 0) dX11_isBroken_12 ok_X11_requirePlayedTurn ⟨ml_X11_278, im_X11_requirePlayedTurn, sl_X11_requirePlayedTurn⟩ rfl (hR.kd (lvC h3 (by omega))) rfl (Nat.le_of_ble_eq_true rfl) (by simp) (by omega) (Nat.le_refl _) (Nat.le_refl _) rfl (t_requirePlayedTurn1 hR h3 hi hk hw) (Or.inl ⟨rfl, hQ⟩)
end ZFACE2
