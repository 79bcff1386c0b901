/-! THROWS of what makes things -/
section ZADDT
variable {Z : zPar} {l : Launch} {Λ : Nat → Nat} {S : zSt} {M : zMem}
theorem f_addAct_0 {mi lo sk li fi : Int32} (hR : zRp Z Λ S M) (h3 : sc S 3 = 1)  (hx9 : mi < 5 ∨ ¬ mi ≤ 60) : zTw Z l 6 mth_X11_addAct [.ref (Λ 1), .int mi, .int lo, .int sk, .int li, .int fi] M 1 6 0 M := by
  intro Q hQ
  have hb0 := hR.bnd.1.1
  have hb1 := hR.bnd.1.2.1
  have hb2 := hR.bnd.1.2.2.1
  show zX Z l 6 mth_X11_addAct 0 [(0, .ref (Λ 1)), (1, .int mi), (2, .int lo), (3, .int sk), (4, .int li), (5, .int fi)] [] M 1 6 Q
  refine zs_iload_n (n := 1) dX11_addAct_0 rfl rfl ?_
  refine zs_iconst (v := 5) (n := 2) dX11_addAct_1 (by decide) rfl ?_
  refine zs_bipush (v := 60) (n := 4) dX11_addAct_2 (by decide) rfl ?_
  exact zt_S (As := [.int mi, .int (5 : Int32), .int (60 : Int32)]) (mc := 1) (ms := 6) (nc1 := 0) (ns1 := 0) dX11_addAct_4 ok_X11_requireRange ⟨ml_X11_60, st_X11_requireRange⟩ rfl (Nat.le_of_ble_eq_true rfl) (by simp) (by omega) (Nat.le_refl _) (Nat.le_refl _) rfl (t_requireRange hx9) (Or.inl ⟨rfl, hQ⟩)
theorem f_addAct_1 {mi lo sk li fi : Int32} (hR : zRp Z Λ S M) (h3 : sc S 3 = 1) (g1 : ¬ mi < 5) (g2 : mi ≤ 60) (hx9 : lo < 0 ∨ ¬ lo ≤ 9) : zTw Z l 6 mth_X11_addAct [.ref (Λ 1), .int mi, .int lo, .int sk, .int li, .int fi] M 1 6 0 M := by
  intro Q hQ
  have hb0 := hR.bnd.1.1
  have hb1 := hR.bnd.1.2.1
  have hb2 := hR.bnd.1.2.2.1
  show zX Z l 6 mth_X11_addAct 0 [(0, .ref (Λ 1)), (1, .int mi), (2, .int lo), (3, .int sk), (4, .int li), (5, .int fi)] [] M 1 6 Q
  refine zs_iload_n (n := 1) dX11_addAct_0 rfl rfl ?_
  refine zs_iconst (v := 5) (n := 2) dX11_addAct_1 (by decide) rfl ?_
  refine zs_bipush (v := 60) (n := 4) dX11_addAct_2 (by decide) rfl ?_
  refine zc_S (n := 7) (As := [.int mi, .int (5 : Int32), .int (60 : Int32)]) (mc := 0) (ms := 0) dX11_addAct_4 ok_X11_requireRange ⟨ml_X11_60, st_X11_requireRange⟩ rfl (Nat.le_of_ble_eq_true rfl) (by simp) (by omega) (Nat.le_refl _) (Nat.le_refl _) rfl rfl (c_requireRange (by assumption) (by assumption)) ?_
  refine zs_iload_n (n := 8) dX11_addAct_7 rfl rfl ?_
  refine zs_iconst (v := 0) (n := 9) dX11_addAct_8 (by decide) rfl ?_
  refine zs_bipush (v := 9) (n := 11) dX11_addAct_9 (by decide) rfl ?_
  exact zt_S (As := [.int lo, .int (0 : Int32), .int (9 : Int32)]) (mc := 1) (ms := 6) (nc1 := 0) (ns1 := 0) dX11_addAct_11 ok_X11_requireRange ⟨ml_X11_60, st_X11_requireRange⟩ rfl (Nat.le_of_ble_eq_true rfl) (by simp) (by omega) (Nat.le_refl _) (Nat.le_refl _) rfl (t_requireRange hx9) (Or.inl ⟨rfl, hQ⟩)
theorem f_addAct_2 {mi lo sk li fi : Int32} (hR : zRp Z Λ S M) (h3 : sc S 3 = 1) (g1 : ¬ mi < 5) (g2 : mi ≤ 60) (g3 : ¬ lo < 0) (g4 : lo ≤ 9) (hx9 : sk < 1 ∨ ¬ sk ≤ 9) : zTw Z l 6 mth_X11_addAct [.ref (Λ 1), .int mi, .int lo, .int sk, .int li, .int fi] M 1 6 0 M := by
  intro Q hQ
  have hb0 := hR.bnd.1.1
  have hb1 := hR.bnd.1.2.1
  have hb2 := hR.bnd.1.2.2.1
  show zX Z l 6 mth_X11_addAct 0 [(0, .ref (Λ 1)), (1, .int mi), (2, .int lo), (3, .int sk), (4, .int li), (5, .int fi)] [] M 1 6 Q
  refine zs_iload_n (n := 1) dX11_addAct_0 rfl rfl ?_
  refine zs_iconst (v := 5) (n := 2) dX11_addAct_1 (by decide) rfl ?_
  refine zs_bipush (v := 60) (n := 4) dX11_addAct_2 (by decide) rfl ?_
  refine zc_S (n := 7) (As := [.int mi, .int (5 : Int32), .int (60 : Int32)]) (mc := 0) (ms := 0) dX11_addAct_4 ok_X11_requireRange ⟨ml_X11_60, st_X11_requireRange⟩ rfl (Nat.le_of_ble_eq_true rfl) (by simp) (by omega) (Nat.le_refl _) (Nat.le_refl _) rfl rfl (c_requireRange (by assumption) (by assumption)) ?_
  refine zs_iload_n (n := 8) dX11_addAct_7 rfl rfl ?_
  refine zs_iconst (v := 0) (n := 9) dX11_addAct_8 (by decide) rfl ?_
  refine zs_bipush (v := 9) (n := 11) dX11_addAct_9 (by decide) rfl ?_
  refine zc_S (n := 14) (As := [.int lo, .int (0 : Int32), .int (9 : Int32)]) (mc := 0) (ms := 0) dX11_addAct_11 ok_X11_requireRange ⟨ml_X11_60, st_X11_requireRange⟩ rfl (Nat.le_of_ble_eq_true rfl) (by simp) (by omega) (Nat.le_refl _) (Nat.le_refl _) rfl rfl (c_requireRange (by assumption) (by assumption)) ?_
  refine zs_iload_n (n := 15) dX11_addAct_14 rfl rfl ?_
  refine zs_iconst (v := 1) (n := 16) dX11_addAct_15 (by decide) rfl ?_
  refine zs_bipush (v := 9) (n := 18) dX11_addAct_16 (by decide) rfl ?_
  exact zt_S (As := [.int sk, .int (1 : Int32), .int (9 : Int32)]) (mc := 1) (ms := 6) (nc1 := 0) (ns1 := 0) dX11_addAct_18 ok_X11_requireRange ⟨ml_X11_60, st_X11_requireRange⟩ rfl (Nat.le_of_ble_eq_true rfl) (by simp) (by omega) (Nat.le_refl _) (Nat.le_refl _) rfl (t_requireRange hx9) (Or.inl ⟨rfl, hQ⟩)
theorem f_addAct_3 {mi lo sk li fi : Int32} (hR : zRp Z Λ S M) (h3 : sc S 3 = 1) (g1 : ¬ mi < 5) (g2 : mi ≤ 60) (g3 : ¬ lo < 0) (g4 : lo ≤ 9) (g5 : ¬ sk < 1) (g6 : sk ≤ 9) (hx9 : li < 1 ∨ ¬ li ≤ 9) : zTw Z l 6 mth_X11_addAct [.ref (Λ 1), .int mi, .int lo, .int sk, .int li, .int fi] M 1 6 0 M := by
  intro Q hQ
  have hb0 := hR.bnd.1.1
  have hb1 := hR.bnd.1.2.1
  have hb2 := hR.bnd.1.2.2.1
  show zX Z l 6 mth_X11_addAct 0 [(0, .ref (Λ 1)), (1, .int mi), (2, .int lo), (3, .int sk), (4, .int li), (5, .int fi)] [] M 1 6 Q
  refine zs_iload_n (n := 1) dX11_addAct_0 rfl rfl ?_
  refine zs_iconst (v := 5) (n := 2) dX11_addAct_1 (by decide) rfl ?_
  refine zs_bipush (v := 60) (n := 4) dX11_addAct_2 (by decide) rfl ?_
  refine zc_S (n := 7) (As := [.int mi, .int (5 : Int32), .int (60 : Int32)]) (mc := 0) (ms := 0) dX11_addAct_4 ok_X11_requireRange ⟨ml_X11_60, st_X11_requireRange⟩ rfl (Nat.le_of_ble_eq_true rfl) (by simp) (by omega) (Nat.le_refl _) (Nat.le_refl _) rfl rfl (c_requireRange (by assumption) (by assumption)) ?_
  refine zs_iload_n (n := 8) dX11_addAct_7 rfl rfl ?_
  refine zs_iconst (v := 0) (n := 9) dX11_addAct_8 (by decide) rfl ?_
  refine zs_bipush (v := 9) (n := 11) dX11_addAct_9 (by decide) rfl ?_
  refine zc_S (n := 14) (As := [.int lo, .int (0 : Int32), .int (9 : Int32)]) (mc := 0) (ms := 0) dX11_addAct_11 ok_X11_requireRange ⟨ml_X11_60, st_X11_requireRange⟩ rfl (Nat.le_of_ble_eq_true rfl) (by simp) (by omega) (Nat.le_refl _) (Nat.le_refl _) rfl rfl (c_requireRange (by assumption) (by assumption)) ?_
  refine zs_iload_n (n := 15) dX11_addAct_14 rfl rfl ?_
  refine zs_iconst (v := 1) (n := 16) dX11_addAct_15 (by decide) rfl ?_
  refine zs_bipush (v := 9) (n := 18) dX11_addAct_16 (by decide) rfl ?_
  refine zc_S (n := 21) (As := [.int sk, .int (1 : Int32), .int (9 : Int32)]) (mc := 0) (ms := 0) dX11_addAct_18 ok_X11_requireRange ⟨ml_X11_60, st_X11_requireRange⟩ rfl (Nat.le_of_ble_eq_true rfl) (by simp) (by omega) (Nat.le_refl _) (Nat.le_refl _) rfl rfl (c_requireRange (by assumption) (by assumption)) ?_
  refine zs_iload (n := 23) dX11_addAct_21 rfl rfl ?_
  refine zs_iconst (v := 1) (n := 24) dX11_addAct_23 (by decide) rfl ?_
  refine zs_bipush (v := 9) (n := 26) dX11_addAct_24 (by decide) rfl ?_
  exact zt_S (As := [.int li, .int (1 : Int32), .int (9 : Int32)]) (mc := 1) (ms := 6) (nc1 := 0) (ns1 := 0) dX11_addAct_26 ok_X11_requireRange ⟨ml_X11_60, st_X11_requireRange⟩ rfl (Nat.le_of_ble_eq_true rfl) (by simp) (by omega) (Nat.le_refl _) (Nat.le_refl _) rfl (t_requireRange hx9) (Or.inl ⟨rfl, hQ⟩)
theorem f_addAct_4 {mi lo sk li fi : Int32} (hR : zRp Z Λ S M) (h3 : sc S 3 = 1) (g1 : ¬ mi < 5) (g2 : mi ≤ 60) (g3 : ¬ lo < 0) (g4 : lo ≤ 9) (g5 : ¬ sk < 1) (g6 : sk ≤ 9) (g7 : ¬ li < 1) (g8 : li ≤ 9) (hn : 8 ≤ sc S 1) : zTw Z l 6 mth_X11_addAct [.ref (Λ 1), .int mi, .int lo, .int sk, .int li, .int fi] M 1 6 1 M := by
  intro Q hQ
  have hb0 := hR.bnd.1.1
  have hb1 := hR.bnd.1.2.1
  have hb2 := hR.bnd.1.2.2.1
  show zX Z l 6 mth_X11_addAct 0 [(0, .ref (Λ 1)), (1, .int mi), (2, .int lo), (3, .int sk), (4, .int li), (5, .int fi)] [] M 1 6 Q
  refine zs_iload_n (n := 1) dX11_addAct_0 rfl rfl ?_
  refine zs_iconst (v := 5) (n := 2) dX11_addAct_1 (by decide) rfl ?_
  refine zs_bipush (v := 60) (n := 4) dX11_addAct_2 (by decide) rfl ?_
  refine zc_S (n := 7) (As := [.int mi, .int (5 : Int32), .int (60 : Int32)]) (mc := 0) (ms := 0) dX11_addAct_4 ok_X11_requireRange ⟨ml_X11_60, st_X11_requireRange⟩ rfl (Nat.le_of_ble_eq_true rfl) (by simp) (by omega) (Nat.le_refl _) (Nat.le_refl _) rfl rfl (c_requireRange (by assumption) (by assumption)) ?_
  refine zs_iload_n (n := 8) dX11_addAct_7 rfl rfl ?_
  refine zs_iconst (v := 0) (n := 9) dX11_addAct_8 (by decide) rfl ?_
  refine zs_bipush (v := 9) (n := 11) dX11_addAct_9 (by decide) rfl ?_
  refine zc_S (n := 14) (As := [.int lo, .int (0 : Int32), .int (9 : Int32)]) (mc := 0) (ms := 0) dX11_addAct_11 ok_X11_requireRange ⟨ml_X11_60, st_X11_requireRange⟩ rfl (Nat.le_of_ble_eq_true rfl) (by simp) (by omega) (Nat.le_refl _) (Nat.le_refl _) rfl rfl (c_requireRange (by assumption) (by assumption)) ?_
  refine zs_iload_n (n := 15) dX11_addAct_14 rfl rfl ?_
  refine zs_iconst (v := 1) (n := 16) dX11_addAct_15 (by decide) rfl ?_
  refine zs_bipush (v := 9) (n := 18) dX11_addAct_16 (by decide) rfl ?_
  refine zc_S (n := 21) (As := [.int sk, .int (1 : Int32), .int (9 : Int32)]) (mc := 0) (ms := 0) dX11_addAct_18 ok_X11_requireRange ⟨ml_X11_60, st_X11_requireRange⟩ rfl (Nat.le_of_ble_eq_true rfl) (by simp) (by omega) (Nat.le_refl _) (Nat.le_refl _) rfl rfl (c_requireRange (by assumption) (by assumption)) ?_
  refine zs_iload (n := 23) dX11_addAct_21 rfl rfl ?_
  refine zs_iconst (v := 1) (n := 24) dX11_addAct_23 (by decide) rfl ?_
  refine zs_bipush (v := 9) (n := 26) dX11_addAct_24 (by decide) rfl ?_
  refine zc_S (n := 29) (As := [.int li, .int (1 : Int32), .int (9 : Int32)]) (mc := 0) (ms := 0) dX11_addAct_26 ok_X11_requireRange ⟨ml_X11_60, st_X11_requireRange⟩ rfl (Nat.le_of_ble_eq_true rfl) (by simp) (by omega) (Nat.le_refl _) (Nat.le_refl _) rfl rfl (c_requireRange (by assumption) (by assumption)) ?_
  refine zs_aload_n (n := 30) dX11_addAct_29 rfl rfl ?_
  refine zs_getr (b := (Λ 2)) (n := 33) dX11_addAct_30 gf_X11_10 (hR.kd (lvC h3 (by omega))) (hR.pt (lvC h3 (by omega)) rfl (by decide)) rfl ?_
  refine zs_getr (b := (Λ 17)) (n := 36) dX11_addAct_33 gf_X11_115 (hR.kd (lvC h3 (by omega))) (hR.pt (lvC h3 (by omega)) rfl (by decide)) rfl ?_
  refine zc_size (c := sc S 1) (n := 39) dX11_addAct_36 ml_X11_79 (hR.lA h3) (by simp) (by omega) rfl ?_
  refine zs_istore (n := 41) dX11_addAct_39 (by decide) rfl ?_
  refine zs_iload (n := 43) dX11_addAct_41 rfl rfl ?_
  refine zs_bipush (v := 8) (n := 45) dX11_addAct_43 (by decide) rfl ?_
  refine zs_icmp_lt (tgt := 58) (n := 48) dX11_addAct_45 (by decide) rfl (fun h => absurd h (nI_nlt (b := 8) hn (by omega))) (fun _ => ?_)
  exact zs_throw thr_X11_addAct_48 rfl (by simp) (Nat.le_refl _) (Nat.le_refl _) hQ
theorem f_addVisit_0 {p q : Int32} (hR : zRp Z Λ S M) (h3 : sc S 3 = 1) (hx9 : ¬ (¬ p < 0 ∧ ¬ nI (sc S 0) ≤ p)) : zTw Z l 6 mth_X11_addVisit [.ref (Λ 1), .int p, .int q] M 1 6 2 M := by
  intro Q hQ
  have hb0 := hR.bnd.1.1
  have hb1 := hR.bnd.1.2.1
  have hb2 := hR.bnd.1.2.2.1
  show zX Z l 6 mth_X11_addVisit 0 [(0, .ref (Λ 1)), (1, .int p), (2, .int q)] [] M 1 6 Q
  refine zs_aload_n (n := 1) dX11_addVisit_0 rfl rfl ?_
  refine zs_iload_n (n := 2) dX11_addVisit_1 rfl rfl ?_
  exact zt_V (As := [.int p]) (ci := 16) (mc := 1) (ms := 6) (nc1 := 0) (ns1 := 0) dX11_addVisit_2 ok_X11_requirePitch ⟨ml_X11_99, im_X11_requirePitch, sl_X11_requirePitch⟩ rfl (hR.kd (lvC h3 (by omega))) rfl (Nat.le_of_ble_eq_true rfl) (by simp) (by omega) (Nat.le_refl _) (Nat.le_refl _) rfl (t_requirePitch hR h3 hx9) (Or.inl ⟨rfl, hQ⟩)
theorem f_addVisit_1 {i : Nat} {q : Int32} (hR : zRp Z Λ S M) (h3 : sc S 3 = 1) (hi : i < sc S 0) (hx9 : q < 600 ∨ ¬ q ≤ 1199) : zTw Z l 6 mth_X11_addVisit [.ref (Λ 1), .int (nI i), .int q] M 1 6 0 M := by
  intro Q hQ
  have hb0 := hR.bnd.1.1
  have hb1 := hR.bnd.1.2.1
  have hb2 := hR.bnd.1.2.2.1
  show zX Z l 6 mth_X11_addVisit 0 [(0, .ref (Λ 1)), (1, .int (nI i)), (2, .int q)] [] M 1 6 Q
  refine zs_aload_n (n := 1) dX11_addVisit_0 rfl rfl ?_
  refine zs_iload_n (n := 2) dX11_addVisit_1 rfl rfl ?_
  refine zc_V (n := 5) (As := [.int (nI i)]) (ci := 16) (mc := 0) (ms := 0) dX11_addVisit_2 ok_X11_requirePitch ⟨ml_X11_99, im_X11_requirePitch, sl_X11_requirePitch⟩ rfl (hR.kd (lvC h3 (by omega))) rfl (Nat.le_of_ble_eq_true rfl) (by simp) (by omega) (Nat.le_refl _) (Nat.le_refl _) rfl rfl (c_requirePitch hR h3 hi) ?_
  refine zs_iload_n (n := 6) dX11_addVisit_5 rfl rfl ?_
  refine zs_sipush (v := 600) (n := 9) dX11_addVisit_6 (by decide) rfl ?_
  refine zs_sipush (v := 1199) (n := 12) dX11_addVisit_9 (by decide) rfl ?_
  exact zt_S (As := [.int q, .int (600 : Int32), .int (1199 : Int32)]) (mc := 1) (ms := 6) (nc1 := 0) (ns1 := 0) dX11_addVisit_12 ok_X11_requireRange ⟨ml_X11_60, st_X11_requireRange⟩ rfl (Nat.le_of_ble_eq_true rfl) (by simp) (by omega) (Nat.le_refl _) (Nat.le_refl _) rfl (t_requireRange hx9) (Or.inl ⟨rfl, hQ⟩)
theorem f_addVisit_2 {i : Nat} {q : Int32} (hR : zRp Z Λ S M) (h3 : sc S 3 = 1) (hi : i < sc S 0) (g1 : ¬ q < 600) (g2 : q ≤ 1199) (hp : ¬ sV S 7 228 = 0) : zTw Z l 6 mth_X11_addVisit [.ref (Λ 1), .int (nI i), .int q] M 1 6 1 M := by
  intro Q hQ
  have hb0 := hR.bnd.1.1
  have hb1 := hR.bnd.1.2.1
  have hb2 := hR.bnd.1.2.2.1
  show zX Z l 6 mth_X11_addVisit 0 [(0, .ref (Λ 1)), (1, .int (nI i)), (2, .int q)] [] M 1 6 Q
  refine zs_aload_n (n := 1) dX11_addVisit_0 rfl rfl ?_
  refine zs_iload_n (n := 2) dX11_addVisit_1 rfl rfl ?_
  refine zc_V (n := 5) (As := [.int (nI i)]) (ci := 16) (mc := 0) (ms := 0) dX11_addVisit_2 ok_X11_requirePitch ⟨ml_X11_99, im_X11_requirePitch, sl_X11_requirePitch⟩ rfl (hR.kd (lvC h3 (by omega))) rfl (Nat.le_of_ble_eq_true rfl) (by simp) (by omega) (Nat.le_refl _) (Nat.le_refl _) rfl rfl (c_requirePitch hR h3 hi) ?_
  refine zs_iload_n (n := 6) dX11_addVisit_5 rfl rfl ?_
  refine zs_sipush (v := 600) (n := 9) dX11_addVisit_6 (by decide) rfl ?_
  refine zs_sipush (v := 1199) (n := 12) dX11_addVisit_9 (by decide) rfl ?_
  refine zc_S (n := 15) (As := [.int q, .int (600 : Int32), .int (1199 : Int32)]) (mc := 0) (ms := 0) dX11_addVisit_12 ok_X11_requireRange ⟨ml_X11_60, st_X11_requireRange⟩ rfl (Nat.le_of_ble_eq_true rfl) (by simp) (by omega) (Nat.le_refl _) (Nat.le_refl _) rfl rfl (c_requireRange (by assumption) (by assumption)) ?_
  refine zs_aload_n (n := 16) dX11_addVisit_15 rfl rfl ?_
  exact zt_V (As := []) (ci := 16) (mc := 1) (ms := 6) (nc1 := 0) (ns1 := 0) dX11_addVisit_16 ok_X11_requireNotPlayed ⟨ml_X11_187, im_X11_requireNotPlayed, sl_X11_requireNotPlayed⟩ rfl (hR.kd (lvC h3 (by omega))) rfl (Nat.le_of_ble_eq_true rfl) (by simp) (by omega) (Nat.le_refl _) (Nat.le_refl _) rfl (t_requireNotPlayed hR h3 hp) (Or.inl ⟨rfl, hQ⟩)
theorem f_addVisit_3 {i : Nat} {q : Int32} (hR : zRp Z Λ S M) (h3 : sc S 3 = 1) (hi : i < sc S 0) (g1 : ¬ q < 600) (g2 : q ≤ 1199) (hp : sV S 7 228 = 0) (hn : 6 ≤ sc S 2) : zTw Z l 6 mth_X11_addVisit [.ref (Λ 1), .int (nI i), .int q] M 1 6 1 M := by
  intro Q hQ
  have hb0 := hR.bnd.1.1
  have hb1 := hR.bnd.1.2.1
  have hb2 := hR.bnd.1.2.2.1
  show zX Z l 6 mth_X11_addVisit 0 [(0, .ref (Λ 1)), (1, .int (nI i)), (2, .int q)] [] M 1 6 Q
  refine zs_aload_n (n := 1) dX11_addVisit_0 rfl rfl ?_
  refine zs_iload_n (n := 2) dX11_addVisit_1 rfl rfl ?_
  refine zc_V (n := 5) (As := [.int (nI i)]) (ci := 16) (mc := 0) (ms := 0) dX11_addVisit_2 ok_X11_requirePitch ⟨ml_X11_99, im_X11_requirePitch, sl_X11_requirePitch⟩ rfl (hR.kd (lvC h3 (by omega))) rfl (Nat.le_of_ble_eq_true rfl) (by simp) (by omega) (Nat.le_refl _) (Nat.le_refl _) rfl rfl (c_requirePitch hR h3 hi) ?_
  refine zs_iload_n (n := 6) dX11_addVisit_5 rfl rfl ?_
  refine zs_sipush (v := 600) (n := 9) dX11_addVisit_6 (by decide) rfl ?_
  refine zs_sipush (v := 1199) (n := 12) dX11_addVisit_9 (by decide) rfl ?_
  refine zc_S (n := 15) (As := [.int q, .int (600 : Int32), .int (1199 : Int32)]) (mc := 0) (ms := 0) dX11_addVisit_12 ok_X11_requireRange ⟨ml_X11_60, st_X11_requireRange⟩ rfl (Nat.le_of_ble_eq_true rfl) (by simp) (by omega) (Nat.le_refl _) (Nat.le_refl _) rfl rfl (c_requireRange (by assumption) (by assumption)) ?_
  refine zs_aload_n (n := 16) dX11_addVisit_15 rfl rfl ?_
  refine zc_V (n := 19) (As := []) (ci := 16) (mc := 0) (ms := 0) dX11_addVisit_16 ok_X11_requireNotPlayed ⟨ml_X11_187, im_X11_requireNotPlayed, sl_X11_requireNotPlayed⟩ rfl (hR.kd (lvC h3 (by omega))) rfl (Nat.le_of_ble_eq_true rfl) (by simp) (by omega) (Nat.le_refl _) (Nat.le_refl _) rfl rfl (c_requireNotPlayed hR h3 hp) ?_
  refine zs_aload_n (n := 20) dX11_addVisit_19 rfl rfl ?_
  refine zs_getr (b := (Λ 7)) (n := 23) dX11_addVisit_20 gf_X11_49 (hR.kd (lvC h3 (by omega))) (hR.pt (lvC h3 (by omega)) rfl (by decide)) rfl ?_
  refine zs_getr (b := (Λ 19)) (n := 26) dX11_addVisit_23 gf_X11_251 (hR.kd (lvC h3 (by omega))) (hR.pt (lvC h3 (by omega)) rfl (by decide)) rfl ?_
  refine zc_size (c := sc S 2) (n := 29) dX11_addVisit_26 ml_X11_79 (hR.lV h3) (by simp) (by omega) rfl ?_
  refine zs_bipush (v := 6) (n := 31) dX11_addVisit_29 (by decide) rfl ?_
  refine zs_icmp_lt (tgt := 44) (n := 34) dX11_addVisit_31 (by decide) rfl (fun h => absurd h (nI_nlt (b := 6) hn (by omega))) (fun _ => ?_)
  exact zs_throw thr_X11_addVisit_34 rfl (by simp) (Nat.le_refl _) (Nat.le_refl _) hQ
end ZADDT
