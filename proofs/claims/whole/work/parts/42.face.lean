/-! FACE of the class: what it requires -/
section ZFACE
variable {Z : zPar} {l : Launch} {Λ : Nat → Nat} {S : zSt} {M : zMem}
theorem zix0 {p : Int32} {n : Nat} (h : ¬ (¬ p < 0 ∧ ¬ nI n ≤ p)) : zb (decide (¬ p < 0) && decide (¬ nI n ≤ p)) = 0 := by
  by_cases h1 : p < 0
  · rw [decide_eq_false (fun h2 => h2 h1), Bool.false_and]; rfl
  · by_cases h2 : nI n ≤ p
    · rw [decide_eq_false (show ¬ ¬ nI n ≤ p from fun h3 => h3 h2), Bool.and_false]; rfl
    · exact absurd ⟨h1, h2⟩ h
theorem zix1 {i n : Nat} (h : i < n) (hn : n < 2 ^ 31) : ¬ zb (decide (¬ nI i < 0) && decide (¬ nI n ≤ nI i)) = 0 := by
  rw [decide_eq_true (nI_pos (by omega)), decide_eq_true (nI_ge h hn)]
  decide
theorem zix_of {p : Int32} {n : Nat} (hn : n < 2 ^ 31) (h : ¬ p < 0 ∧ ¬ nI n ≤ p) : ∃ i, i < n ∧ p = nI i := by
  obtain ⟨j, hj, rfl⟩ := nI_of h.1
  exact ⟨j, Nat.lt_of_not_le (fun h9 => h.2 (nI_le h9 hj)), rfl⟩
theorem c_requireRange {x a b : Int32} (h1 : ¬ x < a) (h2 : x ≤ b) : zD Z l 0 mth_X11_requireRange [.int x, .int a, .int b] M 0 0 none M := by
  intro Q hQ
  show zX Z l 0 mth_X11_requireRange 0 [(0, .int x), (1, .int a), (2, .int b)] [] M 0 0 Q
  refine zs_iload_n (n := 1) dX11_requireRange_0 rfl rfl ?_
  refine zs_iload_n (n := 2) dX11_requireRange_1 rfl rfl ?_
  refine zs_icmp_lt (tgt := 10) (n := 5) dX11_requireRange_2 (by decide) rfl (fun h => absurd h h1) (fun _ => ?_)
  refine zs_iload_n (n := 6) dX11_requireRange_5 rfl rfl ?_
  refine zs_iload_n (n := 7) dX11_requireRange_6 rfl rfl ?_
  refine zs_icmp_le (tgt := 21) (n := 10) dX11_requireRange_7 (by decide) rfl (fun _ => ?_) (fun h => absurd h2 h)
  refine zs_return dX11_requireRange_21 rfl ?_
  exact hQ
theorem t_requireRange {x a b : Int32} (hx9 : x < a ∨ ¬ x ≤ b) : zTw Z l 0 mth_X11_requireRange [.int x, .int a, .int b] M 1 6 0 M := by
  intro Q hQ
  show zX Z l 0 mth_X11_requireRange 0 [(0, .int x), (1, .int a), (2, .int b)] [] M 1 6 Q
  refine zs_iload_n (n := 1) dX11_requireRange_0 rfl rfl ?_
  refine zs_iload_n (n := 2) dX11_requireRange_1 rfl rfl ?_
  refine zs_icmp_lt (tgt := 10) (n := 5) dX11_requireRange_2 (by decide) rfl (fun h2 => ?_) (fun h2 => ?_)
  · exact zs_throw thr_X11_requireRange_10 rfl (by simp) (Nat.le_refl _) (Nat.le_refl _) hQ
  · refine zs_iload_n (n := 6) dX11_requireRange_5 rfl rfl ?_
    refine zs_iload_n (n := 7) dX11_requireRange_6 rfl rfl ?_
    refine zs_icmp_le (tgt := 21) (n := 10) dX11_requireRange_7 (by decide) rfl (fun h => absurd h (hx9.resolve_left (by assumption))) (fun _ => ?_)
    exact zs_throw thr_X11_requireRange_10 rfl (by simp) (Nat.le_refl _) (Nat.le_refl _) hQ
theorem c_requirePitch {i : Nat} (hR : zRp Z Λ S M) (h3 : sc S 3 = 1) (hi : i < sc S 0) : zD Z l 1 mth_X11_requirePitch [.ref (Λ 1), .int (nI i)] M 0 0 none M := by
  intro Q hQ
  have hb := hR.bnd.1.1
  show zX Z l 1 mth_X11_requirePitch 0 [(0, .ref (Λ 1)), (1, .int (nI i))] [] M 0 0 Q
  refine zs_iload_n (n := 1) dX11_requirePitch_0 rfl rfl ?_
  refine zs_aload_n (n := 2) dX11_requirePitch_1 rfl rfl ?_
  refine zs_getr (b := (Λ 2)) (n := 5) dX11_requirePitch_2 gf_X11_10 (hR.kd (lvC h3 (by omega))) (hR.pt (lvC h3 (by omega)) rfl (by decide)) rfl ?_
  refine zs_getr (b := (Λ 15)) (n := 8) dX11_requirePitch_5 gf_X11_75 (hR.kd (lvC h3 (by omega))) (hR.pt (lvC h3 (by omega)) rfl (by decide)) rfl ?_
  refine zc_size (c := sc S 0) (n := 11) dX11_requirePitch_8 ml_X11_79 (hR.lP h3) (by simp) (by omega) rfl ?_
  refine zc_S (n := 14) (As := [.int (nI i), .int (nI (sc S 0))]) (mc := 0) (ms := 0) dX11_requirePitch_11 ok_X11_isIndex ⟨ml_X11_208, st_X11_isIndex⟩ rfl (Nat.le_of_ble_eq_true rfl) (by simp) (by omega) (Nat.le_refl _) (Nat.le_refl _) rfl rfl m_isIndex ?_
  refine zs_if_ne (tgt := 28) (n := 17) dX11_requirePitch_14 (by decide) rfl (fun _ => ?_) (fun h => absurd h (zix1 hi (by omega)))
  refine zs_return dX11_requirePitch_28 rfl ?_
  exact hQ
theorem t_requirePitch {p : Int32} (hR : zRp Z Λ S M) (h3 : sc S 3 = 1) (hx9 : ¬ (¬ p < 0 ∧ ¬ nI (sc S 0) ≤ p)) : zTw Z l 1 mth_X11_requirePitch [.ref (Λ 1), .int p] M 1 6 2 M := by
  intro Q hQ
  show zX Z l 1 mth_X11_requirePitch 0 [(0, .ref (Λ 1)), (1, .int p)] [] M 1 6 Q
  refine zs_iload_n (n := 1) dX11_requirePitch_0 rfl rfl ?_
  refine zs_aload_n (n := 2) dX11_requirePitch_1 rfl rfl ?_
  refine zs_getr (b := (Λ 2)) (n := 5) dX11_requirePitch_2 gf_X11_10 (hR.kd (lvC h3 (by omega))) (hR.pt (lvC h3 (by omega)) rfl (by decide)) rfl ?_
  refine zs_getr (b := (Λ 15)) (n := 8) dX11_requirePitch_5 gf_X11_75 (hR.kd (lvC h3 (by omega))) (hR.pt (lvC h3 (by omega)) rfl (by decide)) rfl ?_
  refine zc_size (c := sc S 0) (n := 11) dX11_requirePitch_8 ml_X11_79 (hR.lP h3) (by simp) (by omega) rfl ?_
  refine zc_S (n := 14) (As := [.int p, .int (nI (sc S 0))]) (mc := 0) (ms := 0) dX11_requirePitch_11 ok_X11_isIndex ⟨ml_X11_208, st_X11_isIndex⟩ rfl (Nat.le_of_ble_eq_true rfl) (by simp) (by omega) (Nat.le_refl _) (Nat.le_refl _) rfl rfl m_isIndex ?_
  refine zs_if_ne (tgt := 28) (n := 17) dX11_requirePitch_14 (by decide) rfl (fun h => absurd (zix0 hx9) h) (fun _ => ?_)
  exact zs_throw thr_X11_requirePitch_17 rfl (by simp) (Nat.le_refl _) (Nat.le_refl _) hQ
theorem c_requireAct {i : Nat} (hR : zRp Z Λ S M) (h3 : sc S 3 = 1) (hi : i < sc S 1) : zD Z l 1 mth_X11_requireAct [.ref (Λ 1), .int (nI i)] M 0 0 none M := by
  intro Q hQ
  have hb := hR.bnd.1.2.1
  show zX Z l 1 mth_X11_requireAct 0 [(0, .ref (Λ 1)), (1, .int (nI i))] [] M 0 0 Q
  refine zs_iload_n (n := 1) dX11_requireAct_0 rfl rfl ?_
  refine zs_aload_n (n := 2) dX11_requireAct_1 rfl rfl ?_
  refine zs_getr (b := (Λ 2)) (n := 5) dX11_requireAct_2 gf_X11_10 (hR.kd (lvC h3 (by omega))) (hR.pt (lvC h3 (by omega)) rfl (by decide)) rfl ?_
  refine zs_getr (b := (Λ 17)) (n := 8) dX11_requireAct_5 gf_X11_115 (hR.kd (lvC h3 (by omega))) (hR.pt (lvC h3 (by omega)) rfl (by decide)) rfl ?_
  refine zc_size (c := sc S 1) (n := 11) dX11_requireAct_8 ml_X11_79 (hR.lA h3) (by simp) (by omega) rfl ?_
  refine zc_S (n := 14) (As := [.int (nI i), .int (nI (sc S 1))]) (mc := 0) (ms := 0) dX11_requireAct_11 ok_X11_isIndex ⟨ml_X11_208, st_X11_isIndex⟩ rfl (Nat.le_of_ble_eq_true rfl) (by simp) (by omega) (Nat.le_refl _) (Nat.le_refl _) rfl rfl m_isIndex ?_
  refine zs_if_ne (tgt := 28) (n := 17) dX11_requireAct_14 (by decide) rfl (fun _ => ?_) (fun h => absurd h (zix1 hi (by omega)))
  refine zs_return dX11_requireAct_28 rfl ?_
  exact hQ
theorem t_requireAct {p : Int32} (hR : zRp Z Λ S M) (h3 : sc S 3 = 1) (hx9 : ¬ (¬ p < 0 ∧ ¬ nI (sc S 1) ≤ p)) : zTw Z l 1 mth_X11_requireAct [.ref (Λ 1), .int p] M 1 6 2 M := by
  intro Q hQ
  show zX Z l 1 mth_X11_requireAct 0 [(0, .ref (Λ 1)), (1, .int p)] [] M 1 6 Q
  refine zs_iload_n (n := 1) dX11_requireAct_0 rfl rfl ?_
  refine zs_aload_n (n := 2) dX11_requireAct_1 rfl rfl ?_
  refine zs_getr (b := (Λ 2)) (n := 5) dX11_requireAct_2 gf_X11_10 (hR.kd (lvC h3 (by omega))) (hR.pt (lvC h3 (by omega)) rfl (by decide)) rfl ?_
  refine zs_getr (b := (Λ 17)) (n := 8) dX11_requireAct_5 gf_X11_115 (hR.kd (lvC h3 (by omega))) (hR.pt (lvC h3 (by omega)) rfl (by decide)) rfl ?_
  refine zc_size (c := sc S 1) (n := 11) dX11_requireAct_8 ml_X11_79 (hR.lA h3) (by simp) (by omega) rfl ?_
  refine zc_S (n := 14) (As := [.int p, .int (nI (sc S 1))]) (mc := 0) (ms := 0) dX11_requireAct_11 ok_X11_isIndex ⟨ml_X11_208, st_X11_isIndex⟩ rfl (Nat.le_of_ble_eq_true rfl) (by simp) (by omega) (Nat.le_refl _) (Nat.le_refl _) rfl rfl m_isIndex ?_
  refine zs_if_ne (tgt := 28) (n := 17) dX11_requireAct_14 (by decide) rfl (fun h => absurd (zix0 hx9) h) (fun _ => ?_)
  exact zs_throw thr_X11_requireAct_17 rfl (by simp) (Nat.le_refl _) (Nat.le_refl _) hQ
theorem c_requireVisit {i : Nat} (hR : zRp Z Λ S M) (h3 : sc S 3 = 1) (hi : i < sc S 2) : zD Z l 1 mth_X11_requireVisit [.ref (Λ 1), .int (nI i)] M 0 0 none M := by
  intro Q hQ
  have hb := hR.bnd.1.2.2.1
  show zX Z l 1 mth_X11_requireVisit 0 [(0, .ref (Λ 1)), (1, .int (nI i))] [] M 0 0 Q
  refine zs_iload_n (n := 1) dX11_requireVisit_0 rfl rfl ?_
  refine zs_aload_n (n := 2) dX11_requireVisit_1 rfl rfl ?_
  refine zs_getr (b := (Λ 7)) (n := 5) dX11_requireVisit_2 gf_X11_49 (hR.kd (lvC h3 (by omega))) (hR.pt (lvC h3 (by omega)) rfl (by decide)) rfl ?_
  refine zs_getr (b := (Λ 19)) (n := 8) dX11_requireVisit_5 gf_X11_251 (hR.kd (lvC h3 (by omega))) (hR.pt (lvC h3 (by omega)) rfl (by decide)) rfl ?_
  refine zc_size (c := sc S 2) (n := 11) dX11_requireVisit_8 ml_X11_79 (hR.lV h3) (by simp) (by omega) rfl ?_
  refine zc_S (n := 14) (As := [.int (nI i), .int (nI (sc S 2))]) (mc := 0) (ms := 0) dX11_requireVisit_11 ok_X11_isIndex ⟨ml_X11_208, st_X11_isIndex⟩ rfl (Nat.le_of_ble_eq_true rfl) (by simp) (by omega) (Nat.le_refl _) (Nat.le_refl _) rfl rfl m_isIndex ?_
  refine zs_if_ne (tgt := 28) (n := 17) dX11_requireVisit_14 (by decide) rfl (fun _ => ?_) (fun h => absurd h (zix1 hi (by omega)))
  refine zs_return dX11_requireVisit_28 rfl ?_
  exact hQ
theorem t_requireVisit {p : Int32} (hR : zRp Z Λ S M) (h3 : sc S 3 = 1) (hx9 : ¬ (¬ p < 0 ∧ ¬ nI (sc S 2) ≤ p)) : zTw Z l 1 mth_X11_requireVisit [.ref (Λ 1), .int p] M 1 6 5 M := by
  intro Q hQ
  show zX Z l 1 mth_X11_requireVisit 0 [(0, .ref (Λ 1)), (1, .int p)] [] M 1 6 Q
  refine zs_iload_n (n := 1) dX11_requireVisit_0 rfl rfl ?_
  refine zs_aload_n (n := 2) dX11_requireVisit_1 rfl rfl ?_
  refine zs_getr (b := (Λ 7)) (n := 5) dX11_requireVisit_2 gf_X11_49 (hR.kd (lvC h3 (by omega))) (hR.pt (lvC h3 (by omega)) rfl (by decide)) rfl ?_
  refine zs_getr (b := (Λ 19)) (n := 8) dX11_requireVisit_5 gf_X11_251 (hR.kd (lvC h3 (by omega))) (hR.pt (lvC h3 (by omega)) rfl (by decide)) rfl ?_
  refine zc_size (c := sc S 2) (n := 11) dX11_requireVisit_8 ml_X11_79 (hR.lV h3) (by simp) (by omega) rfl ?_
  refine zc_S (n := 14) (As := [.int p, .int (nI (sc S 2))]) (mc := 0) (ms := 0) dX11_requireVisit_11 ok_X11_isIndex ⟨ml_X11_208, st_X11_isIndex⟩ rfl (Nat.le_of_ble_eq_true rfl) (by simp) (by omega) (Nat.le_refl _) (Nat.le_refl _) rfl rfl m_isIndex ?_
  refine zs_if_ne (tgt := 28) (n := 17) dX11_requireVisit_14 (by decide) rfl (fun h => absurd (zix0 hx9) h) (fun _ => ?_)
  exact zs_throw thr_X11_requireVisit_17 rfl (by simp) (Nat.le_refl _) (Nat.le_refl _) hQ
theorem c_requireNotPlayed  (hR : zRp Z Λ S M) (h3 : sc S 3 = 1) (hp : sV S 7 228 = 0) : zD Z l 0 mth_X11_requireNotPlayed [.ref (Λ 1)] M 0 0 none M := by
  intro Q hQ
  show zX Z l 0 mth_X11_requireNotPlayed 0 [(0, .ref (Λ 1))] [] M 0 0 Q
  refine zs_aload_n (n := 1) dX11_requireNotPlayed_0 rfl rfl ?_
  refine zs_getr (b := (Λ 7)) (n := 4) dX11_requireNotPlayed_1 gf_X11_49 (hR.kd (lvC h3 (by omega))) (hR.pt (lvC h3 (by omega)) rfl (by decide)) rfl ?_
  refine zs_getv (x := (sV S 7 228)) (n := 7) dX11_requireNotPlayed_4 gf_X11_368 (hR.kd (lvC h3 (by omega))) (hR.iv (lvC h3 (by omega)) (by decide) (by decide)) rfl ?_
  refine zs_if_eq (tgt := 21) (n := 10) dX11_requireNotPlayed_7 (by decide) rfl (fun _ => ?_) (fun h => absurd hp h)
  refine zs_return dX11_requireNotPlayed_21 rfl ?_
  exact hQ
theorem t_requireNotPlayed  (hR : zRp Z Λ S M) (h3 : sc S 3 = 1) (hp : ¬ sV S 7 228 = 0) : zTw Z l 0 mth_X11_requireNotPlayed [.ref (Λ 1)] M 1 6 1 M := by
  intro Q hQ
  show zX Z l 0 mth_X11_requireNotPlayed 0 [(0, .ref (Λ 1))] [] M 1 6 Q
  refine zs_aload_n (n := 1) dX11_requireNotPlayed_0 rfl rfl ?_
  refine zs_getr (b := (Λ 7)) (n := 4) dX11_requireNotPlayed_1 gf_X11_49 (hR.kd (lvC h3 (by omega))) (hR.pt (lvC h3 (by omega)) rfl (by decide)) rfl ?_
  refine zs_getv (x := (sV S 7 228)) (n := 7) dX11_requireNotPlayed_4 gf_X11_368 (hR.kd (lvC h3 (by omega))) (hR.iv (lvC h3 (by omega)) (by decide) (by decide)) rfl ?_
  refine zs_if_eq (tgt := 21) (n := 10) dX11_requireNotPlayed_7 (by decide) rfl (fun h => absurd h hp) (fun _ => ?_)
  exact zs_throw thr_X11_requireNotPlayed_10 rfl (by simp) (Nat.le_refl _) (Nat.le_refl _) hQ
theorem c_requirePlayed  (hR : zRp Z Λ S M) (h3 : sc S 3 = 1) (hp : ¬ sV S 7 228 = 0) : zD Z l 0 mth_X11_requirePlayed [.ref (Λ 1)] M 0 0 none M := by
  intro Q hQ
  show zX Z l 0 mth_X11_requirePlayed 0 [(0, .ref (Λ 1))] [] M 0 0 Q
  refine zs_aload_n (n := 1) dX11_requirePlayed_0 rfl rfl ?_
  refine zs_getr (b := (Λ 7)) (n := 4) dX11_requirePlayed_1 gf_X11_49 (hR.kd (lvC h3 (by omega))) (hR.pt (lvC h3 (by omega)) rfl (by decide)) rfl ?_
  refine zs_getv (x := (sV S 7 228)) (n := 7) dX11_requirePlayed_4 gf_X11_368 (hR.kd (lvC h3 (by omega))) (hR.iv (lvC h3 (by omega)) (by decide) (by decide)) rfl ?_
  refine zs_if_ne (tgt := 21) (n := 10) dX11_requirePlayed_7 (by decide) rfl (fun _ => ?_) (fun h => absurd h hp)
  refine zs_return dX11_requirePlayed_21 rfl ?_
  exact hQ
theorem t_requirePlayed  (hR : zRp Z Λ S M) (h3 : sc S 3 = 1) (hp : sV S 7 228 = 0) : zTw Z l 0 mth_X11_requirePlayed [.ref (Λ 1)] M 1 6 1 M := by
  intro Q hQ
  show zX Z l 0 mth_X11_requirePlayed 0 [(0, .ref (Λ 1))] [] M 1 6 Q
  refine zs_aload_n (n := 1) dX11_requirePlayed_0 rfl rfl ?_
  refine zs_getr (b := (Λ 7)) (n := 4) dX11_requirePlayed_1 gf_X11_49 (hR.kd (lvC h3 (by omega))) (hR.pt (lvC h3 (by omega)) rfl (by decide)) rfl ?_
  refine zs_getv (x := (sV S 7 228)) (n := 7) dX11_requirePlayed_4 gf_X11_368 (hR.kd (lvC h3 (by omega))) (hR.iv (lvC h3 (by omega)) (by decide) (by decide)) rfl ?_
  refine zs_if_ne (tgt := 21) (n := 10) dX11_requirePlayed_7 (by decide) rfl (fun h => absurd hp h) (fun _ => ?_)
  exact zs_throw thr_X11_requirePlayed_10 rfl (by simp) (Nat.le_refl _) (Nat.le_refl _) hQ
theorem c_requireTwoActs {i j : Nat} (hR : zRp Z Λ S M) (h3 : sc S 3 = 1) (hi : i < sc S 1) (hj : j < sc S 1) (hne : i ≠ j) : zD Z l 2 mth_X11_requireTwoActs [.ref (Λ 1), .int (nI i), .int (nI j)] M 0 0 none M := by
  intro Q hQ
  have hb := hR.bnd.1.2.1
  show zX Z l 2 mth_X11_requireTwoActs 0 [(0, .ref (Λ 1)), (1, .int (nI i)), (2, .int (nI j))] [] M 0 0 Q
  refine zs_aload_n (n := 1) dX11_requireTwoActs_0 rfl rfl ?_
  refine zs_iload_n (n := 2) dX11_requireTwoActs_1 rfl rfl ?_
  refine zc_V (n := 5) (As := [.int (nI i)]) (ci := 16) (mc := 0) (ms := 0) dX11_requireTwoActs_2 ok_X11_requireAct ⟨ml_X11_125, im_X11_requireAct, sl_X11_requireAct⟩ rfl (hR.kd (lvC h3 (by omega))) rfl (Nat.le_of_ble_eq_true rfl) (by simp) (by omega) (Nat.le_refl _) (Nat.le_refl _) rfl rfl (c_requireAct hR h3 hi) ?_
  refine zs_aload_n (n := 6) dX11_requireTwoActs_5 rfl rfl ?_
  refine zs_iload_n (n := 7) dX11_requireTwoActs_6 rfl rfl ?_
  refine zc_V (n := 10) (As := [.int (nI j)]) (ci := 16) (mc := 0) (ms := 0) dX11_requireTwoActs_7 ok_X11_requireAct ⟨ml_X11_125, im_X11_requireAct, sl_X11_requireAct⟩ rfl (hR.kd (lvC h3 (by omega))) rfl (Nat.le_of_ble_eq_true rfl) (by simp) (by omega) (Nat.le_refl _) (Nat.le_refl _) rfl rfl (c_requireAct hR h3 hj) ?_
  refine zs_iload_n (n := 11) dX11_requireTwoActs_10 rfl rfl ?_
  refine zs_iload_n (n := 12) dX11_requireTwoActs_11 rfl rfl ?_
  refine zs_icmp_ne (tgt := 26) (n := 15) dX11_requireTwoActs_12 (by decide) rfl (fun _ => ?_) (fun h => absurd h (fun e => hne ((nI_eq (by omega) (by omega)).mp e)))
  refine zs_return dX11_requireTwoActs_26 rfl ?_
  exact hQ
theorem t_requireTwoActs0 {p q : Int32} (hR : zRp Z Λ S M) (h3 : sc S 3 = 1) (hx9 : ¬ (¬ p < 0 ∧ ¬ nI (sc S 1) ≤ p)) : zTw Z l 2 mth_X11_requireTwoActs [.ref (Λ 1), .int p, .int q] M 1 6 2 M := by
  intro Q hQ
  show zX Z l 2 mth_X11_requireTwoActs 0 [(0, .ref (Λ 1)), (1, .int p), (2, .int q)] [] M 1 6 Q
  refine zs_aload_n (n := 1) dX11_requireTwoActs_0 rfl rfl ?_
  refine zs_iload_n (n := 2) dX11_requireTwoActs_1 rfl rfl ?_
  exact zt_V (As := [.int p]) (ci := 16) (mc := 1) (ms := 6) (nc1 := 0) (ns1 := 0) dX11_requireTwoActs_2 ok_X11_requireAct ⟨ml_X11_125, im_X11_requireAct, sl_X11_requireAct⟩ rfl (hR.kd (lvC h3 (by omega))) rfl (Nat.le_of_ble_eq_true rfl) (by simp) (by omega) (Nat.le_refl _) (Nat.le_refl _) rfl (t_requireAct hR h3 hx9) (Or.inl ⟨rfl, hQ⟩)
theorem t_requireTwoActs1 {i : Nat} {q : Int32} (hR : zRp Z Λ S M) (h3 : sc S 3 = 1) (hi : i < sc S 1) (hx9 : ¬ (¬ q < 0 ∧ ¬ nI (sc S 1) ≤ q)) : zTw Z l 2 mth_X11_requireTwoActs [.ref (Λ 1), .int (nI i), .int q] M 1 6 2 M := by
  intro Q hQ
  show zX Z l 2 mth_X11_requireTwoActs 0 [(0, .ref (Λ 1)), (1, .int (nI i)), (2, .int q)] [] M 1 6 Q
  refine zs_aload_n (n := 1) dX11_requireTwoActs_0 rfl rfl ?_
  refine zs_iload_n (n := 2) dX11_requireTwoActs_1 rfl rfl ?_
  refine zc_V (n := 5) (As := [.int (nI i)]) (ci := 16) (mc := 0) (ms := 0) dX11_requireTwoActs_2 ok_X11_requireAct ⟨ml_X11_125, im_X11_requireAct, sl_X11_requireAct⟩ rfl (hR.kd (lvC h3 (by omega))) rfl (Nat.le_of_ble_eq_true rfl) (by simp) (by omega) (Nat.le_refl _) (Nat.le_refl _) rfl rfl (c_requireAct hR h3 hi) ?_
  refine zs_aload_n (n := 6) dX11_requireTwoActs_5 rfl rfl ?_
  refine zs_iload_n (n := 7) dX11_requireTwoActs_6 rfl rfl ?_
  exact zt_V (As := [.int q]) (ci := 16) (mc := 1) (ms := 6) (nc1 := 0) (ns1 := 0) dX11_requireTwoActs_7 ok_X11_requireAct ⟨ml_X11_125, im_X11_requireAct, sl_X11_requireAct⟩ rfl (hR.kd (lvC h3 (by omega))) rfl (Nat.le_of_ble_eq_true rfl) (by simp) (by omega) (Nat.le_refl _) (Nat.le_refl _) rfl (t_requireAct hR h3 hx9) (Or.inl ⟨rfl, hQ⟩)
theorem t_requireTwoActs2 {i : Nat} (hR : zRp Z Λ S M) (h3 : sc S 3 = 1) (hi : i < sc S 1) : zTw Z l 2 mth_X11_requireTwoActs [.ref (Λ 1), .int (nI i), .int (nI i)] M 1 6 0 M := by
  intro Q hQ
  show zX Z l 2 mth_X11_requireTwoActs 0 [(0, .ref (Λ 1)), (1, .int (nI i)), (2, .int (nI i))] [] M 1 6 Q
  refine zs_aload_n (n := 1) dX11_requireTwoActs_0 rfl rfl ?_
  refine zs_iload_n (n := 2) dX11_requireTwoActs_1 rfl rfl ?_
  refine zc_V (n := 5) (As := [.int (nI i)]) (ci := 16) (mc := 0) (ms := 0) dX11_requireTwoActs_2 ok_X11_requireAct ⟨ml_X11_125, im_X11_requireAct, sl_X11_requireAct⟩ rfl (hR.kd (lvC h3 (by omega))) rfl (Nat.le_of_ble_eq_true rfl) (by simp) (by omega) (Nat.le_refl _) (Nat.le_refl _) rfl rfl (c_requireAct hR h3 hi) ?_
  refine zs_aload_n (n := 6) dX11_requireTwoActs_5 rfl rfl ?_
  refine zs_iload_n (n := 7) dX11_requireTwoActs_6 rfl rfl ?_
  refine zc_V (n := 10) (As := [.int (nI i)]) (ci := 16) (mc := 0) (ms := 0) dX11_requireTwoActs_7 ok_X11_requireAct ⟨ml_X11_125, im_X11_requireAct, sl_X11_requireAct⟩ rfl (hR.kd (lvC h3 (by omega))) rfl (Nat.le_of_ble_eq_true rfl) (by simp) (by omega) (Nat.le_refl _) (Nat.le_refl _) rfl rfl (c_requireAct hR h3 hi) ?_
  refine zs_iload_n (n := 11) dX11_requireTwoActs_10 rfl rfl ?_
  refine zs_iload_n (n := 12) dX11_requireTwoActs_11 rfl rfl ?_
  refine zs_icmp_ne (tgt := 26) (n := 15) dX11_requireTwoActs_12 (by decide) rfl (fun h => absurd rfl h) (fun _ => ?_)
  exact zs_throw thr_X11_requireTwoActs_15 rfl (by simp) (Nat.le_refl _) (Nat.le_refl _) hQ
theorem f_setPassers {i hh : Nat} {v : Int32} (hR : zRp Z Λ S M) (h3 : sc S 3 = 1) (hi : i < sc S 0) (g1 : ¬ nI hh < 10) (g2 : nI hh ≤ 19) (g3 : 10 ≤ hh) (g4 : hh < 20) (g5 : ¬ v < 0) (g6 : v ≤ 600) : zG Z l 3 mth_X11_setPassers [.ref (Λ 1), .int (nI i), .int (nI hh), .int v] M 0 0 (some (.int (sW S (110 + i) (hh - 10)))) (zRp Z Λ (sc S, sV S, u2 (sW S) (110 + i) (hh - 10) v, sT S, sP S)) := by
  intro Q hQ
  have hb0 := hR.bnd.1.1
  have hb1 := hR.bnd.1.2.1
  have hb2 := hR.bnd.1.2.2.1
  show zX Z l 3 mth_X11_setPassers 0 [(0, .ref (Λ 1)), (1, .int (nI i)), (2, .int (nI hh)), (3, .int v)] [] M 0 0 Q
  refine zs_aload_n (n := 1) dX11_setPassers_0 rfl rfl ?_
  refine zs_iload_n (n := 2) dX11_setPassers_1 rfl rfl ?_
  refine zc_V (n := 5) (As := [.int (nI i)]) (ci := 16) (mc := 0) (ms := 0) dX11_setPassers_2 ok_X11_requirePitch ⟨ml_X11_99, im_X11_requirePitch, sl_X11_requirePitch⟩ rfl (hR.kd (lvC h3 (by omega))) rfl (Nat.le_of_ble_eq_true rfl) (by simp) (by omega) (Nat.le_refl _) (Nat.le_refl _) rfl rfl (c_requirePitch hR h3 hi) ?_
  refine zs_iload_n (n := 6) dX11_setPassers_5 rfl rfl ?_
  refine zs_bipush (v := 10) (n := 8) dX11_setPassers_6 (by decide) rfl ?_
  refine zs_bipush (v := 19) (n := 10) dX11_setPassers_8 (by decide) rfl ?_
  refine zc_S (n := 13) (As := [.int (nI hh), .int (10 : Int32), .int (19 : Int32)]) (mc := 0) (ms := 0) dX11_setPassers_10 ok_X11_requireRange ⟨ml_X11_60, st_X11_requireRange⟩ rfl (Nat.le_of_ble_eq_true rfl) (by simp) (by omega) (Nat.le_refl _) (Nat.le_refl _) rfl rfl (c_requireRange (by assumption) (by assumption)) ?_
  refine zs_iload_n (n := 14) dX11_setPassers_13 rfl rfl ?_
  refine zs_iconst (v := 0) (n := 15) dX11_setPassers_14 (by decide) rfl ?_
  refine zs_sipush (v := 600) (n := 18) dX11_setPassers_15 (by decide) rfl ?_
  refine zc_S (n := 21) (As := [.int v, .int (0 : Int32), .int (600 : Int32)]) (mc := 0) (ms := 0) dX11_setPassers_18 ok_X11_requireRange ⟨ml_X11_60, st_X11_requireRange⟩ rfl (Nat.le_of_ble_eq_true rfl) (by simp) (by omega) (Nat.le_refl _) (Nat.le_refl _) rfl rfl (c_requireRange (by assumption) (by assumption)) ?_
  refine zs_aload_n (n := 22) dX11_setPassers_21 rfl rfl ?_
  refine zs_getr (b := (Λ 2)) (n := 25) dX11_setPassers_22 gf_X11_10 (hR.kd (lvC h3 (by omega))) (hR.pt (lvC h3 (by omega)) rfl (by decide)) rfl ?_
  refine zs_getr (b := (Λ 15)) (n := 28) dX11_setPassers_25 gf_X11_75 (hR.kd (lvC h3 (by omega))) (hR.pt (lvC h3 (by omega)) rfl (by decide)) rfl ?_
  refine zs_iload_n (n := 29) dX11_setPassers_28 rfl rfl ?_
  refine zc_getb (c := sc S 0) (b := (Λ (100 + i))) (n := 32) dX11_setPassers_29 ml_X11_103 (hR.lP h3) hi rfl (by simp) (by omega) rfl ?_
  refine zs_castS (ci := 11) (n := 35) dX11_setPassers_32 rfl cl_X11_90 (hR.kP hi) rfl ?_
  refine zs_getr (b := (Λ (110 + i))) (n := 38) dX11_setPassers_35 gf_X11_107 (hR.kP hi) (hR.pQ hi) rfl ?_
  refine zs_astore (n := 40) dX11_setPassers_38 (by decide) rfl ?_
  refine zs_aload (n := 42) dX11_setPassers_40 rfl rfl ?_
  refine zs_iload_n (n := 43) dX11_setPassers_42 rfl rfl ?_
  refine zs_bipush (v := 10) (n := 45) dX11_setPassers_43 (by decide) rfl ?_
  refine zs_isub (n := 46) dX11_setPassers_45 rfl ?_
  rw [show (nI hh - 10 : Int32) = nI (hh - 10) from pk_sub (b := 10) (by omega)]
  refine zs_ialdv (x := (sW S (110 + i) (hh - 10))) (n := 47) dX11_setPassers_46 (hR.kQ hi) (by rw [show mN M (Λ (110 + i)) = 10 from (hR.nQ hi)]; exact vp_in_nI (by first | exact (show hh - 10 < 10 from by omega) | omega) (by omega)) (by rw [nI_clamp (by omega)]; exact hR.av (lvQ hi)) rfl ?_
  refine zs_istore (n := 49) dX11_setPassers_47 (by decide) rfl ?_
  refine zs_aload (n := 51) dX11_setPassers_49 rfl rfl ?_
  refine zs_iload_n (n := 52) dX11_setPassers_51 rfl rfl ?_
  refine zs_bipush (v := 10) (n := 54) dX11_setPassers_52 (by decide) rfl ?_
  refine zs_isub (n := 55) dX11_setPassers_54 rfl ?_
  rw [show (nI hh - 10 : Int32) = nI (hh - 10) from pk_sub (b := 10) (by omega)]
  refine zs_iload_n (n := 56) dX11_setPassers_55 rfl rfl ?_
  refine zw_ai (r := (110 + i)) (n := 57) dX11_setPassers_56 hR (lvQ hi) (hR.kQ hi) (by rw [show mN M (Λ (110 + i)) = 10 from (hR.nQ hi)]; exact vp_in_nI (by first | exact (show hh - 10 < 10 from by omega) | omega) (by omega)) rfl ?_
  rw [nI_clamp (by omega)]
  intro M hR hv
  refine zs_iload (n := 59) dX11_setPassers_57 rfl rfl ?_
  refine zs_ireturn dX11_setPassers_59 ⟨_, rfl, rfl⟩ ?_
  exact hQ _ hR
theorem f_passersAt {i mi : Nat} (hR : zRp Z Λ S M) (h3 : sc S 3 = 1) (hi : i < sc S 0) (g1 : ¬ nI mi < 600) (g2 : nI mi ≤ 1199) (g3 : 600 ≤ mi) (g4 : mi < 1200) : zD Z l 3 mth_X11_passersAt [.ref (Λ 1), .int (nI i), .int (nI mi)] M 0 0 (some (.int (fPass S i mi))) M := by
  intro Q hQ
  have hb0 := hR.bnd.1.1
  have hb1 := hR.bnd.1.2.1
  have hb2 := hR.bnd.1.2.2.1
  show zX Z l 3 mth_X11_passersAt 0 [(0, .ref (Λ 1)), (1, .int (nI i)), (2, .int (nI mi))] [] M 0 0 Q
  refine zs_aload_n (n := 1) dX11_passersAt_0 rfl rfl ?_
  refine zs_iload_n (n := 2) dX11_passersAt_1 rfl rfl ?_
  refine zc_V (n := 5) (As := [.int (nI i)]) (ci := 16) (mc := 0) (ms := 0) dX11_passersAt_2 ok_X11_requirePitch ⟨ml_X11_99, im_X11_requirePitch, sl_X11_requirePitch⟩ rfl (hR.kd (lvC h3 (by omega))) rfl (Nat.le_of_ble_eq_true rfl) (by simp) (by omega) (Nat.le_refl _) (Nat.le_refl _) rfl rfl (c_requirePitch hR h3 hi) ?_
  refine zs_iload_n (n := 6) dX11_passersAt_5 rfl rfl ?_
  refine zs_sipush (v := 600) (n := 9) dX11_passersAt_6 (by decide) rfl ?_
  refine zs_sipush (v := 1199) (n := 12) dX11_passersAt_9 (by decide) rfl ?_
  refine zc_S (n := 15) (As := [.int (nI mi), .int (600 : Int32), .int (1199 : Int32)]) (mc := 0) (ms := 0) dX11_passersAt_12 ok_X11_requireRange ⟨ml_X11_60, st_X11_requireRange⟩ rfl (Nat.le_of_ble_eq_true rfl) (by simp) (by omega) (Nat.le_refl _) (Nat.le_refl _) rfl rfl (c_requireRange (by assumption) (by assumption)) ?_
  refine zs_aload_n (n := 16) dX11_passersAt_15 rfl rfl ?_
  refine zs_getr (b := (Λ 2)) (n := 19) dX11_passersAt_16 gf_X11_10 (hR.kd (lvC h3 (by omega))) (hR.pt (lvC h3 (by omega)) rfl (by decide)) rfl ?_
  refine zs_getr (b := (Λ 15)) (n := 22) dX11_passersAt_19 gf_X11_75 (hR.kd (lvC h3 (by omega))) (hR.pt (lvC h3 (by omega)) rfl (by decide)) rfl ?_
  refine zs_iload_n (n := 23) dX11_passersAt_22 rfl rfl ?_
  refine zc_getb (c := sc S 0) (b := (Λ (100 + i))) (n := 26) dX11_passersAt_23 ml_X11_103 (hR.lP h3) hi rfl (by simp) (by omega) rfl ?_
  refine zs_castS (ci := 11) (n := 29) dX11_passersAt_26 rfl cl_X11_90 (hR.kP hi) rfl ?_
  refine zs_iload_n (n := 30) dX11_passersAt_29 rfl rfl ?_
  refine zc_V (n := 33) (As := [.int (nI mi)]) (ci := 11) (mc := 0) (ms := 0) dX11_passersAt_30 ok_X6_passersIn ⟨ml_X11_111, im_X6_passersIn, sl_X6_passersIn⟩ rfl (hR.kP hi) rfl (Nat.le_of_ble_eq_true rfl) (by simp) (by omega) (Nat.le_refl _) (Nat.le_refl _) rfl rfl (c_passersIn hR hi (by omega) (by omega)) ?_
  refine zs_ireturn dX11_passersAt_33 ⟨_, rfl, rfl⟩ ?_
  exact hQ
theorem f_setLine {i : Nat} {v : Int32} (hR : zRp Z Λ S M) (h3 : sc S 3 = 1) (hi : i < sc S 1) (g1 : ¬ v < 1) (g2 : v ≤ 9) : zG Z l 3 mth_X11_setLine [.ref (Λ 1), .int (nI i), .int v] M 0 0 (some (.int (sV S (140 + i) 165))) (zRp Z Λ (sc S, (u2 (sV S) (140 + i) 165 v), sW S, sT S, sP S)) := by
  intro Q hQ
  have hb0 := hR.bnd.1.1
  have hb1 := hR.bnd.1.2.1
  have hb2 := hR.bnd.1.2.2.1
  show zX Z l 3 mth_X11_setLine 0 [(0, .ref (Λ 1)), (1, .int (nI i)), (2, .int v)] [] M 0 0 Q
  refine zs_aload_n (n := 1) dX11_setLine_0 rfl rfl ?_
  refine zs_iload_n (n := 2) dX11_setLine_1 rfl rfl ?_
  refine zc_V (n := 5) (As := [.int (nI i)]) (ci := 16) (mc := 0) (ms := 0) dX11_setLine_2 ok_X11_requireAct ⟨ml_X11_125, im_X11_requireAct, sl_X11_requireAct⟩ rfl (hR.kd (lvC h3 (by omega))) rfl (Nat.le_of_ble_eq_true rfl) (by simp) (by omega) (Nat.le_refl _) (Nat.le_refl _) rfl rfl (c_requireAct hR h3 hi) ?_
  refine zs_iload_n (n := 6) dX11_setLine_5 rfl rfl ?_
  refine zs_iconst (v := 1) (n := 7) dX11_setLine_6 (by decide) rfl ?_
  refine zs_bipush (v := 9) (n := 9) dX11_setLine_7 (by decide) rfl ?_
  refine zc_S (n := 12) (As := [.int v, .int (1 : Int32), .int (9 : Int32)]) (mc := 0) (ms := 0) dX11_setLine_9 ok_X11_requireRange ⟨ml_X11_60, st_X11_requireRange⟩ rfl (Nat.le_of_ble_eq_true rfl) (by simp) (by omega) (Nat.le_refl _) (Nat.le_refl _) rfl rfl (c_requireRange (by assumption) (by assumption)) ?_
  refine zs_aload_n (n := 13) dX11_setLine_12 rfl rfl ?_
  refine zs_getr (b := (Λ 2)) (n := 16) dX11_setLine_13 gf_X11_10 (hR.kd (lvC h3 (by omega))) (hR.pt (lvC h3 (by omega)) rfl (by decide)) rfl ?_
  refine zs_getr (b := (Λ 17)) (n := 19) dX11_setLine_16 gf_X11_115 (hR.kd (lvC h3 (by omega))) (hR.pt (lvC h3 (by omega)) rfl (by decide)) rfl ?_
  refine zs_iload_n (n := 20) dX11_setLine_19 rfl rfl ?_
  refine zc_getb (c := sc S 1) (b := (Λ (140 + i))) (n := 23) dX11_setLine_20 ml_X11_103 (hR.lA h3) hi rfl (by simp) (by omega) rfl ?_
  refine zs_castS (ci := 5) (n := 26) dX11_setLine_23 rfl cl_X11_120 (hR.kA hi) rfl ?_
  refine zs_astore_n (n := 27) dX11_setLine_26 (by decide) rfl ?_
  refine zs_aload_n (n := 28) dX11_setLine_27 rfl rfl ?_
  refine zs_getv (x := (sV S (140 + i) 165)) (n := 31) dX11_setLine_28 gf_X11_128 (hR.kA hi) (hR.iv (lvA hi) (by decide) (by decide)) rfl ?_
  refine zs_istore (n := 33) dX11_setLine_31 (by decide) rfl ?_
  refine zs_aload_n (n := 34) dX11_setLine_33 rfl rfl ?_
  refine zs_iload_n (n := 35) dX11_setLine_34 rfl rfl ?_
  refine zw_i (r := (140 + i)) (n := 38) dX11_setLine_35 pf_X11_setLine_128 hR (lvA hi) (hR.kA hi) ⟨rfl, rfl⟩ (by decide) rfl ?_
  intro M hR hv
  refine zs_iload (n := 40) dX11_setLine_38 rfl rfl ?_
  refine zs_ireturn dX11_setLine_40 ⟨_, rfl, rfl⟩ ?_
  exact hQ _ hR
theorem f_setPermit {i : Nat} {v : Int32} (hR : zRp Z Λ S M) (h3 : sc S 3 = 1) (hi : i < sc S 1) (hv : v = 0 ∨ v = 1) (hw : sV S (140 + i) 166 = 0 ∨ sV S (140 + i) 166 = 1) : zG Z l 3 mth_X11_setPermit [.ref (Λ 1), .int (nI i), .int v] M 0 0 (some (.int (sV S (140 + i) 166))) (zRp Z Λ (sc S, (u2 (sV S) (140 + i) 166 v), sW S, sT S, sP S)) := by
  intro Q hQ
  have hb0 := hR.bnd.1.1
  have hb1 := hR.bnd.1.2.1
  have hb2 := hR.bnd.1.2.2.1
  show zX Z l 3 mth_X11_setPermit 0 [(0, .ref (Λ 1)), (1, .int (nI i)), (2, .int v)] [] M 0 0 Q
  refine zs_aload_n (n := 1) dX11_setPermit_0 rfl rfl ?_
  refine zs_iload_n (n := 2) dX11_setPermit_1 rfl rfl ?_
  refine zc_V (n := 5) (As := [.int (nI i)]) (ci := 16) (mc := 0) (ms := 0) dX11_setPermit_2 ok_X11_requireAct ⟨ml_X11_125, im_X11_requireAct, sl_X11_requireAct⟩ rfl (hR.kd (lvC h3 (by omega))) rfl (Nat.le_of_ble_eq_true rfl) (by simp) (by omega) (Nat.le_refl _) (Nat.le_refl _) rfl rfl (c_requireAct hR h3 hi) ?_
  refine zs_aload_n (n := 6) dX11_setPermit_5 rfl rfl ?_
  refine zs_getr (b := (Λ 2)) (n := 9) dX11_setPermit_6 gf_X11_10 (hR.kd (lvC h3 (by omega))) (hR.pt (lvC h3 (by omega)) rfl (by decide)) rfl ?_
  refine zs_getr (b := (Λ 17)) (n := 12) dX11_setPermit_9 gf_X11_115 (hR.kd (lvC h3 (by omega))) (hR.pt (lvC h3 (by omega)) rfl (by decide)) rfl ?_
  refine zs_iload_n (n := 13) dX11_setPermit_12 rfl rfl ?_
  refine zc_getb (c := sc S 1) (b := (Λ (140 + i))) (n := 16) dX11_setPermit_13 ml_X11_103 (hR.lA h3) hi rfl (by simp) (by omega) rfl ?_
  refine zs_castS (ci := 5) (n := 19) dX11_setPermit_16 rfl cl_X11_120 (hR.kA hi) rfl ?_
  refine zs_astore_n (n := 20) dX11_setPermit_19 (by decide) rfl ?_
  refine zs_aload_n (n := 21) dX11_setPermit_20 rfl rfl ?_
  refine zs_getv (x := (sV S (140 + i) 166)) (n := 24) dX11_setPermit_21 gf_X11_132 (hR.kA hi) (hR.iv (lvA hi) (by decide) (by decide)) rfl ?_
  refine zs_istore (n := 26) dX11_setPermit_24 (by decide) rfl ?_
  refine zs_aload_n (n := 27) dX11_setPermit_26 rfl rfl ?_
  refine zs_iload_n (n := 28) dX11_setPermit_27 rfl rfl ?_
  refine zw_i (r := (140 + i)) (n := 31) dX11_setPermit_28 pf_X11_setPermit_132 hR (lvA hi) (hR.kA hi) (by rcases hv with rfl | rfl <;> exact ⟨by decide, by decide⟩) (by decide) rfl ?_
  intro M hR hv
  refine zs_iload (n := 33) dX11_setPermit_31 rfl rfl ?_
  refine zs_ireturn dX11_setPermit_33 ⟨_, rfl, (by rcases hw with h | h <;> rw [h] <;> decide)⟩ ?_
  exact hQ _ hR
theorem f_seed {v : Int32} (hR : zRp Z Λ S M) (h3 : sc S 3 = 1) (g1 : ¬ v < 1) (g2 : v ≤ 2147483646) : zG Z l 3 mth_X11_seed [.ref (Λ 1), .int v] M 0 0 (some (.int (sV S 4 325))) (zRp Z Λ (sc S, (u2 (sV S) 4 325 v), sW S, sT S, sP S)) := by
  intro Q hQ
  have hb0 := hR.bnd.1.1
  have hb1 := hR.bnd.1.2.1
  have hb2 := hR.bnd.1.2.2.1
  show zX Z l 3 mth_X11_seed 0 [(0, .ref (Λ 1)), (1, .int v)] [] M 0 0 Q
  refine zs_iload_n (n := 1) dX11_seed_0 rfl rfl ?_
  refine zs_iconst (v := 1) (n := 2) dX11_seed_1 (by decide) rfl ?_
  refine zs_ldc (n := 4) dX11_seed_2 ct_X11_183 rfl ?_
  refine zc_S (n := 7) (As := [.int v, .int (1 : Int32), .int (2147483646 : Int32)]) (mc := 0) (ms := 0) dX11_seed_4 ok_X11_requireRange ⟨ml_X11_60, st_X11_requireRange⟩ rfl (Nat.le_of_ble_eq_true rfl) (by simp) (by omega) (Nat.le_refl _) (Nat.le_refl _) rfl rfl (c_requireRange (by assumption) (by assumption)) ?_
  refine zs_aload_n (n := 8) dX11_seed_7 rfl rfl ?_
  refine zs_getr (b := (Λ 4)) (n := 11) dX11_seed_8 gf_X11_26 (hR.kd (lvC h3 (by omega))) (hR.pt (lvC h3 (by omega)) rfl (by decide)) rfl ?_
  refine zs_getv (x := (sV S 4 325)) (n := 14) dX11_seed_11 gf_X11_184 (hR.kd (lvC h3 (by omega))) (hR.iv (lvC h3 (by omega)) (by decide) (by decide)) rfl ?_
  refine zs_istore_n (n := 15) dX11_seed_14 (by decide) rfl ?_
  refine zs_aload_n (n := 16) dX11_seed_15 rfl rfl ?_
  refine zs_getr (b := (Λ 4)) (n := 19) dX11_seed_16 gf_X11_26 (hR.kd (lvC h3 (by omega))) (hR.pt (lvC h3 (by omega)) rfl (by decide)) rfl ?_
  refine zs_iload_n (n := 20) dX11_seed_19 rfl rfl ?_
  refine zw_i (r := 4) (n := 23) dX11_seed_20 pf_X11_seed_184 hR (lvC h3 (by omega)) (hR.kd (lvC h3 (by omega))) ⟨rfl, rfl⟩ (by decide) rfl ?_
  intro M hR hv
  refine zs_iload_n (n := 24) dX11_seed_23 rfl rfl ?_
  refine zs_ireturn dX11_seed_24 ⟨_, rfl, rfl⟩ ?_
  exact hQ _ hR
theorem c_rainMinutes (hR : zRp Z Λ S M) (h3 : sc S 3 = 1) : zD Z l 0 mth_X10_rainMinutes [.ref (Λ 5)] M 0 0 (some (.int (sV S 5 481 - sV S 5 480 + 1))) M := by
  have hl : zlv (sc S) 5 := lvC h3 (by omega)
  have h9 := m_rainMinutes (Z := Z) (l := l) (M := M) (hR.kd hl)
  rw [hR.iv hl (by decide) (by decide), hR.iv hl (by decide) (by decide)] at h9
  exact h9
theorem f_setRain {a b : Int32} (hR : zRp Z Λ S M) (h3 : sc S 3 = 1) (g1 : ¬ a < 600) (g2 : a ≤ 1199) (g3 : ¬ b < a) (g4 : b ≤ 1199) : zG Z l 3 mth_X11_setRain [.ref (Λ 1), .int a, .int b] M 0 0 (some (.int (sV S 5 481 - sV S 5 480 + 1))) (zRp Z Λ (sc S, (u2 (u2 (sV S) 5 480 a) 5 481 b), sW S, sT S, sP S)) := by
  intro Q hQ
  have hb0 := hR.bnd.1.1
  have hb1 := hR.bnd.1.2.1
  have hb2 := hR.bnd.1.2.2.1
  show zX Z l 3 mth_X11_setRain 0 [(0, .ref (Λ 1)), (1, .int a), (2, .int b)] [] M 0 0 Q
  refine zs_iload_n (n := 1) dX11_setRain_0 rfl rfl ?_
  refine zs_sipush (v := 600) (n := 4) dX11_setRain_1 (by decide) rfl ?_
  refine zs_sipush (v := 1199) (n := 7) dX11_setRain_4 (by decide) rfl ?_
  refine zc_S (n := 10) (As := [.int a, .int (600 : Int32), .int (1199 : Int32)]) (mc := 0) (ms := 0) dX11_setRain_7 ok_X11_requireRange ⟨ml_X11_60, st_X11_requireRange⟩ rfl (Nat.le_of_ble_eq_true rfl) (by simp) (by omega) (Nat.le_refl _) (Nat.le_refl _) rfl rfl (c_requireRange (by assumption) (by assumption)) ?_
  refine zs_iload_n (n := 11) dX11_setRain_10 rfl rfl ?_
  refine zs_iload_n (n := 12) dX11_setRain_11 rfl rfl ?_
  refine zs_sipush (v := 1199) (n := 15) dX11_setRain_12 (by decide) rfl ?_
  refine zc_S (n := 18) (As := [.int b, .int a, .int (1199 : Int32)]) (mc := 0) (ms := 0) dX11_setRain_15 ok_X11_requireRange ⟨ml_X11_60, st_X11_requireRange⟩ rfl (Nat.le_of_ble_eq_true rfl) (by simp) (by omega) (Nat.le_refl _) (Nat.le_refl _) rfl rfl (c_requireRange (by assumption) (by assumption)) ?_
  refine zs_aload_n (n := 19) dX11_setRain_18 rfl rfl ?_
  refine zs_getr (b := (Λ 5)) (n := 22) dX11_setRain_19 gf_X11_33 (hR.kd (lvC h3 (by omega))) (hR.pt (lvC h3 (by omega)) rfl (by decide)) rfl ?_
  refine zc_V (n := 25) (As := []) (ci := 15) (mc := 0) (ms := 0) dX11_setRain_22 ok_X10_rainMinutes ⟨ml_X11_233, im_X10_rainMinutes, sl_X10_rainMinutes⟩ rfl (hR.kd (lvC h3 (by omega))) rfl (Nat.le_of_ble_eq_true rfl) (by simp) (by omega) (Nat.le_refl _) (Nat.le_refl _) rfl rfl (c_rainMinutes hR h3) ?_
  refine zs_istore_n (n := 26) dX11_setRain_25 (by decide) rfl ?_
  refine zs_aload_n (n := 27) dX11_setRain_26 rfl rfl ?_
  refine zs_getr (b := (Λ 5)) (n := 30) dX11_setRain_27 gf_X11_33 (hR.kd (lvC h3 (by omega))) (hR.pt (lvC h3 (by omega)) rfl (by decide)) rfl ?_
  refine zs_iload_n (n := 31) dX11_setRain_30 rfl rfl ?_
  refine zw_i (r := 5) (n := 34) dX11_setRain_31 pf_X11_setRain_236 hR (lvC h3 (by omega)) (hR.kd (lvC h3 (by omega))) ⟨rfl, rfl⟩ (by decide) rfl ?_
  intro M hR hv
  refine zs_aload_n (n := 35) dX11_setRain_34 rfl rfl ?_
  refine zs_getr (b := (Λ 5)) (n := 38) dX11_setRain_35 gf_X11_33 (hR.kd (lvC h3 (by omega))) (hR.pt (lvC h3 (by omega)) rfl (by decide)) rfl ?_
  refine zs_iload_n (n := 39) dX11_setRain_38 rfl rfl ?_
  refine zw_i (r := 5) (n := 42) dX11_setRain_39 pf_X11_setRain_239 hR (lvC h3 (by omega)) (hR.kd (lvC h3 (by omega))) ⟨rfl, rfl⟩ (by decide) rfl ?_
  intro M hR hv
  refine zs_iload_n (n := 43) dX11_setRain_42 rfl rfl ?_
  refine zs_ireturn dX11_setRain_43 ⟨_, rfl, rfl⟩ ?_
  exact hQ _ hR
theorem f_setCold {v : Int32} (hR : zRp Z Λ S M) (h3 : sc S 3 = 1) (g1 : ¬ v < 0) (g2 : v ≤ 40) : zG Z l 3 mth_X11_setCold [.ref (Λ 1), .int v] M 0 0 (some (.int (sV S 5 482))) (zRp Z Λ (sc S, (u2 (sV S) 5 482 v), sW S, sT S, sP S)) := by
  intro Q hQ
  have hb0 := hR.bnd.1.1
  have hb1 := hR.bnd.1.2.1
  have hb2 := hR.bnd.1.2.2.1
  show zX Z l 3 mth_X11_setCold 0 [(0, .ref (Λ 1)), (1, .int v)] [] M 0 0 Q
  refine zs_iload_n (n := 1) dX11_setCold_0 rfl rfl ?_
  refine zs_iconst (v := 0) (n := 2) dX11_setCold_1 (by decide) rfl ?_
  refine zs_bipush (v := 40) (n := 4) dX11_setCold_2 (by decide) rfl ?_
  refine zc_S (n := 7) (As := [.int v, .int (0 : Int32), .int (40 : Int32)]) (mc := 0) (ms := 0) dX11_setCold_4 ok_X11_requireRange ⟨ml_X11_60, st_X11_requireRange⟩ rfl (Nat.le_of_ble_eq_true rfl) (by simp) (by omega) (Nat.le_refl _) (Nat.le_refl _) rfl rfl (c_requireRange (by assumption) (by assumption)) ?_
  refine zs_aload_n (n := 8) dX11_setCold_7 rfl rfl ?_
  refine zs_getr (b := (Λ 5)) (n := 11) dX11_setCold_8 gf_X11_33 (hR.kd (lvC h3 (by omega))) (hR.pt (lvC h3 (by omega)) rfl (by decide)) rfl ?_
  refine zs_getv (x := (sV S 5 482)) (n := 14) dX11_setCold_11 gf_X11_242 (hR.kd (lvC h3 (by omega))) (hR.iv (lvC h3 (by omega)) (by decide) (by decide)) rfl ?_
  refine zs_istore_n (n := 15) dX11_setCold_14 (by decide) rfl ?_
  refine zs_aload_n (n := 16) dX11_setCold_15 rfl rfl ?_
  refine zs_getr (b := (Λ 5)) (n := 19) dX11_setCold_16 gf_X11_33 (hR.kd (lvC h3 (by omega))) (hR.pt (lvC h3 (by omega)) rfl (by decide)) rfl ?_
  refine zs_iload_n (n := 20) dX11_setCold_19 rfl rfl ?_
  refine zw_i (r := 5) (n := 23) dX11_setCold_20 pf_X11_setCold_242 hR (lvC h3 (by omega)) (hR.kd (lvC h3 (by omega))) ⟨rfl, rfl⟩ (by decide) rfl ?_
  intro M hR hv
  refine zs_iload_n (n := 24) dX11_setCold_23 rfl rfl ?_
  refine zs_ireturn dX11_setCold_24 ⟨_, rfl, rfl⟩ ?_
  exact hQ _ hR
theorem f_setLaw {a b : Int32} (hR : zRp Z Λ S M) (h3 : sc S 3 = 1) (g1 : ¬ a < 0) (g2 : a ≤ 99) (g3 : ¬ b < 0) (g4 : b ≤ 99) : zG Z l 3 mth_X11_setLaw [.ref (Λ 1), .int a, .int b] M 0 0 (some (.int (sV S 6 288))) (zRp Z Λ (sc S, (u2 (u2 (sV S) 6 288 a) 6 289 b), sW S, sT S, sP S)) := by
  intro Q hQ
  have hb0 := hR.bnd.1.1
  have hb1 := hR.bnd.1.2.1
  have hb2 := hR.bnd.1.2.2.1
  show zX Z l 3 mth_X11_setLaw 0 [(0, .ref (Λ 1)), (1, .int a), (2, .int b)] [] M 0 0 Q
  refine zs_iload_n (n := 1) dX11_setLaw_0 rfl rfl ?_
  refine zs_iconst (v := 0) (n := 2) dX11_setLaw_1 (by decide) rfl ?_
  refine zs_bipush (v := 99) (n := 4) dX11_setLaw_2 (by decide) rfl ?_
  refine zc_S (n := 7) (As := [.int a, .int (0 : Int32), .int (99 : Int32)]) (mc := 0) (ms := 0) dX11_setLaw_4 ok_X11_requireRange ⟨ml_X11_60, st_X11_requireRange⟩ rfl (Nat.le_of_ble_eq_true rfl) (by simp) (by omega) (Nat.le_refl _) (Nat.le_refl _) rfl rfl (c_requireRange (by assumption) (by assumption)) ?_
  refine zs_iload_n (n := 8) dX11_setLaw_7 rfl rfl ?_
  refine zs_iconst (v := 0) (n := 9) dX11_setLaw_8 (by decide) rfl ?_
  refine zs_bipush (v := 99) (n := 11) dX11_setLaw_9 (by decide) rfl ?_
  refine zc_S (n := 14) (As := [.int b, .int (0 : Int32), .int (99 : Int32)]) (mc := 0) (ms := 0) dX11_setLaw_11 ok_X11_requireRange ⟨ml_X11_60, st_X11_requireRange⟩ rfl (Nat.le_of_ble_eq_true rfl) (by simp) (by omega) (Nat.le_refl _) (Nat.le_refl _) rfl rfl (c_requireRange (by assumption) (by assumption)) ?_
  refine zs_aload_n (n := 15) dX11_setLaw_14 rfl rfl ?_
  refine zs_getr (b := (Λ 6)) (n := 18) dX11_setLaw_15 gf_X11_40 (hR.kd (lvC h3 (by omega))) (hR.pt (lvC h3 (by omega)) rfl (by decide)) rfl ?_
  refine zs_getv (x := (sV S 6 288)) (n := 21) dX11_setLaw_18 gf_X11_245 (hR.kd (lvC h3 (by omega))) (hR.iv (lvC h3 (by omega)) (by decide) (by decide)) rfl ?_
  refine zs_istore_n (n := 22) dX11_setLaw_21 (by decide) rfl ?_
  refine zs_aload_n (n := 23) dX11_setLaw_22 rfl rfl ?_
  refine zs_getr (b := (Λ 6)) (n := 26) dX11_setLaw_23 gf_X11_40 (hR.kd (lvC h3 (by omega))) (hR.pt (lvC h3 (by omega)) rfl (by decide)) rfl ?_
  refine zs_iload_n (n := 27) dX11_setLaw_26 rfl rfl ?_
  refine zw_i (r := 6) (n := 30) dX11_setLaw_27 pf_X11_setLaw_245 hR (lvC h3 (by omega)) (hR.kd (lvC h3 (by omega))) ⟨rfl, rfl⟩ (by decide) rfl ?_
  intro M hR hv
  refine zs_aload_n (n := 31) dX11_setLaw_30 rfl rfl ?_
  refine zs_getr (b := (Λ 6)) (n := 34) dX11_setLaw_31 gf_X11_40 (hR.kd (lvC h3 (by omega))) (hR.pt (lvC h3 (by omega)) rfl (by decide)) rfl ?_
  refine zs_iload_n (n := 35) dX11_setLaw_34 rfl rfl ?_
  refine zw_i (r := 6) (n := 38) dX11_setLaw_35 pf_X11_setLaw_248 hR (lvC h3 (by omega)) (hR.kd (lvC h3 (by omega))) ⟨rfl, rfl⟩ (by decide) rfl ?_
  intro M hR hv
  refine zs_iload_n (n := 39) dX11_setLaw_38 rfl rfl ?_
  refine zs_ireturn dX11_setLaw_39 ⟨_, rfl, rfl⟩ ?_
  exact hQ _ hR
theorem f_fineAt {i : Nat} (hR : zRp Z Λ S M) (h3 : sc S 3 = 1) (hp : ¬ sV S 7 228 = 0) (hi : i < sc S 2) (hc : zCh (sV S (150 + i) 450)) : zD Z l 3 mth_X11_fineAt [.ref (Λ 1), .int (nI i)] M 0 0 (some (.int (sV S (150 + i) 450))) M := by
  intro Q hQ
  have hb0 := hR.bnd.1.1
  have hb1 := hR.bnd.1.2.1
  have hb2 := hR.bnd.1.2.2.1
  show zX Z l 3 mth_X11_fineAt 0 [(0, .ref (Λ 1)), (1, .int (nI i))] [] M 0 0 Q
  refine zs_aload_n (n := 1) dX11_fineAt_0 rfl rfl ?_
  refine zc_V (n := 4) (As := []) (ci := 16) (mc := 0) (ms := 0) dX11_fineAt_1 ok_X11_requirePlayed ⟨ml_X11_275, im_X11_requirePlayed, sl_X11_requirePlayed⟩ rfl (hR.kd (lvC h3 (by omega))) rfl (Nat.le_of_ble_eq_true rfl) (by simp) (by omega) (Nat.le_refl _) (Nat.le_refl _) rfl rfl (c_requirePlayed hR h3 hp) ?_
  refine zs_aload_n (n := 5) dX11_fineAt_4 rfl rfl ?_
  refine zs_iload_n (n := 6) dX11_fineAt_5 rfl rfl ?_
  refine zc_V (n := 9) (As := [.int (nI i)]) (ci := 16) (mc := 0) (ms := 0) dX11_fineAt_6 ok_X11_requireVisit ⟨ml_X11_288, im_X11_requireVisit, sl_X11_requireVisit⟩ rfl (hR.kd (lvC h3 (by omega))) rfl (Nat.le_of_ble_eq_true rfl) (by simp) (by omega) (Nat.le_refl _) (Nat.le_refl _) rfl rfl (c_requireVisit hR h3 hi) ?_
  refine zs_aload_n (n := 10) dX11_fineAt_9 rfl rfl ?_
  refine zs_getr (b := (Λ 7)) (n := 13) dX11_fineAt_10 gf_X11_49 (hR.kd (lvC h3 (by omega))) (hR.pt (lvC h3 (by omega)) rfl (by decide)) rfl ?_
  refine zs_getr (b := (Λ 19)) (n := 16) dX11_fineAt_13 gf_X11_251 (hR.kd (lvC h3 (by omega))) (hR.pt (lvC h3 (by omega)) rfl (by decide)) rfl ?_
  refine zs_iload_n (n := 17) dX11_fineAt_16 rfl rfl ?_
  refine zc_getb (c := sc S 2) (b := (Λ (150 + i))) (n := 20) dX11_fineAt_17 ml_X11_103 (hR.lV h3) hi rfl (by simp) (by omega) rfl ?_
  refine zs_castS (ci := 14) (n := 23) dX11_fineAt_20 rfl cl_X11_256 (hR.kV hi) rfl ?_
  refine zs_getv (x := (sV S (150 + i) 450)) (n := 26) dX11_fineAt_23 gf_X11_291 (hR.kV hi) (hR.iv (lvV hi) (by decide) (by decide)) rfl ?_
  refine zs_ireturn dX11_fineAt_26 ⟨_, rfl, hc.1⟩ ?_
  exact hQ
theorem f_sumAt {i : Nat} (hR : zRp Z Λ S M) (h3 : sc S 3 = 1) (hp : ¬ sV S 7 228 = 0) (hi : i < sc S 2) : zD Z l 3 mth_X11_sumAt [.ref (Λ 1), .int (nI i)] M 0 0 (some (.int (sV S (150 + i) 451))) M := by
  intro Q hQ
  have hb0 := hR.bnd.1.1
  have hb1 := hR.bnd.1.2.1
  have hb2 := hR.bnd.1.2.2.1
  show zX Z l 3 mth_X11_sumAt 0 [(0, .ref (Λ 1)), (1, .int (nI i))] [] M 0 0 Q
  refine zs_aload_n (n := 1) dX11_sumAt_0 rfl rfl ?_
  refine zc_V (n := 4) (As := []) (ci := 16) (mc := 0) (ms := 0) dX11_sumAt_1 ok_X11_requirePlayed ⟨ml_X11_275, im_X11_requirePlayed, sl_X11_requirePlayed⟩ rfl (hR.kd (lvC h3 (by omega))) rfl (Nat.le_of_ble_eq_true rfl) (by simp) (by omega) (Nat.le_refl _) (Nat.le_refl _) rfl rfl (c_requirePlayed hR h3 hp) ?_
  refine zs_aload_n (n := 5) dX11_sumAt_4 rfl rfl ?_
  refine zs_iload_n (n := 6) dX11_sumAt_5 rfl rfl ?_
  refine zc_V (n := 9) (As := [.int (nI i)]) (ci := 16) (mc := 0) (ms := 0) dX11_sumAt_6 ok_X11_requireVisit ⟨ml_X11_288, im_X11_requireVisit, sl_X11_requireVisit⟩ rfl (hR.kd (lvC h3 (by omega))) rfl (Nat.le_of_ble_eq_true rfl) (by simp) (by omega) (Nat.le_refl _) (Nat.le_refl _) rfl rfl (c_requireVisit hR h3 hi) ?_
  refine zs_aload_n (n := 10) dX11_sumAt_9 rfl rfl ?_
  refine zs_getr (b := (Λ 7)) (n := 13) dX11_sumAt_10 gf_X11_49 (hR.kd (lvC h3 (by omega))) (hR.pt (lvC h3 (by omega)) rfl (by decide)) rfl ?_
  refine zs_getr (b := (Λ 19)) (n := 16) dX11_sumAt_13 gf_X11_251 (hR.kd (lvC h3 (by omega))) (hR.pt (lvC h3 (by omega)) rfl (by decide)) rfl ?_
  refine zs_iload_n (n := 17) dX11_sumAt_16 rfl rfl ?_
  refine zc_getb (c := sc S 2) (b := (Λ (150 + i))) (n := 20) dX11_sumAt_17 ml_X11_103 (hR.lV h3) hi rfl (by simp) (by omega) rfl ?_
  refine zs_castS (ci := 14) (n := 23) dX11_sumAt_20 rfl cl_X11_256 (hR.kV hi) rfl ?_
  refine zs_getv (x := (sV S (150 + i) 451)) (n := 26) dX11_sumAt_23 gf_X11_295 (hR.kV hi) (hR.iv (lvV hi) (by decide) (by decide)) rfl ?_
  refine zs_ireturn dX11_sumAt_26 ⟨_, rfl, rfl⟩ ?_
  exact hQ
theorem f_money {i : Nat} (hR : zRp Z Λ S M) (h3 : sc S 3 = 1) (hi : i < sc S 1) : zD Z l 3 mth_X11_money [.ref (Λ 1), .int (nI i)] M 0 0 (some (.int (sV S (140 + i) 167))) M := by
  intro Q hQ
  have hb0 := hR.bnd.1.1
  have hb1 := hR.bnd.1.2.1
  have hb2 := hR.bnd.1.2.2.1
  show zX Z l 3 mth_X11_money 0 [(0, .ref (Λ 1)), (1, .int (nI i))] [] M 0 0 Q
  refine zs_aload_n (n := 1) dX11_money_0 rfl rfl ?_
  refine zs_iload_n (n := 2) dX11_money_1 rfl rfl ?_
  refine zc_V (n := 5) (As := [.int (nI i)]) (ci := 16) (mc := 0) (ms := 0) dX11_money_2 ok_X11_requireAct ⟨ml_X11_125, im_X11_requireAct, sl_X11_requireAct⟩ rfl (hR.kd (lvC h3 (by omega))) rfl (Nat.le_of_ble_eq_true rfl) (by simp) (by omega) (Nat.le_refl _) (Nat.le_refl _) rfl rfl (c_requireAct hR h3 hi) ?_
  refine zs_aload_n (n := 6) dX11_money_5 rfl rfl ?_
  refine zs_getr (b := (Λ 2)) (n := 9) dX11_money_6 gf_X11_10 (hR.kd (lvC h3 (by omega))) (hR.pt (lvC h3 (by omega)) rfl (by decide)) rfl ?_
  refine zs_getr (b := (Λ 17)) (n := 12) dX11_money_9 gf_X11_115 (hR.kd (lvC h3 (by omega))) (hR.pt (lvC h3 (by omega)) rfl (by decide)) rfl ?_
  refine zs_iload_n (n := 13) dX11_money_12 rfl rfl ?_
  refine zc_getb (c := sc S 1) (b := (Λ (140 + i))) (n := 16) dX11_money_13 ml_X11_103 (hR.lA h3) hi rfl (by simp) (by omega) rfl ?_
  refine zs_castS (ci := 5) (n := 19) dX11_money_16 rfl cl_X11_120 (hR.kA hi) rfl ?_
  refine zs_getv (x := (sV S (140 + i) 167)) (n := 22) dX11_money_19 gf_X11_298 (hR.kA hi) (hR.iv (lvA hi) (by decide) (by decide)) rfl ?_
  refine zs_ireturn dX11_money_22 ⟨_, rfl, rfl⟩ ?_
  exact hQ
theorem f_fines  (hR : zRp Z Λ S M) (h3 : sc S 3 = 1) : zD Z l 3 mth_X11_fines [.ref (Λ 1)] M 0 0 (some (.int (sV S 7 232))) M := by
  intro Q hQ
  have hb0 := hR.bnd.1.1
  have hb1 := hR.bnd.1.2.1
  have hb2 := hR.bnd.1.2.2.1
  show zX Z l 3 mth_X11_fines 0 [(0, .ref (Λ 1))] [] M 0 0 Q
  refine zs_aload_n (n := 1) dX11_fines_0 rfl rfl ?_
  refine zs_getr (b := (Λ 7)) (n := 4) dX11_fines_1 gf_X11_49 (hR.kd (lvC h3 (by omega))) (hR.pt (lvC h3 (by omega)) rfl (by decide)) rfl ?_
  refine zs_getv (x := (sV S 7 232)) (n := 7) dX11_fines_4 gf_X11_301 (hR.kd (lvC h3 (by omega))) (hR.iv (lvC h3 (by omega)) (by decide) (by decide)) rfl ?_
  refine zs_ireturn dX11_fines_7 ⟨_, rfl, rfl⟩ ?_
  exact hQ
theorem f_orders {F : Nat} (hR : zRp Z Λ S M) (h3 : sc S 3 = 1) (hF : F + 1 = 2 ^ sc S 1) : zG Z l 3 mth_X11_orders [.ref (Λ 1)] M 0 0 (some (.int (fWay S (sc S 1) F F 10 0))) (zRp Z Λ (wW S (fWay S (sc S 1) F F))) := by
  intro Q hQ
  have hn : sc S 1 ≤ 8 := hR.bnd.1.2.1
  show zX Z l 3 mth_X11_orders 0 [(0, .ref (Λ 1))] [] M 0 0 Q
  refine zs_aload_n (n := 1) dX11_orders_0 rfl rfl ?_
  refine zs_getr (b := (Λ 3)) (n := 4) dX11_orders_1 gf_X11_19 (hR.kd (lvC h3 (by omega))) (hR.pt (lvC h3 (by omega)) rfl (by decide)) rfl ?_
  refine zs_aload_n (n := 5) dX11_orders_4 rfl rfl ?_
  refine zs_getr (b := (Λ 2)) (n := 8) dX11_orders_5 gf_X11_10 (hR.kd (lvC h3 (by omega))) (hR.pt (lvC h3 (by omega)) rfl (by decide)) rfl ?_
  refine zs_getr (b := (Λ 17)) (n := 11) dX11_orders_8 gf_X11_115 (hR.kd (lvC h3 (by omega))) (hR.pt (lvC h3 (by omega)) rfl (by decide)) rfl ?_
  refine zc_size (c := sc S 1) (n := 14) dX11_orders_11 ml_X11_79 (hR.lA h3) (by simp) (by omega) rfl ?_
  refine zg_V (n := 17) (As := [.int (nI (sc S 1))]) (ci := 6) (mc := 0) (ms := 0) dX11_orders_14 ok_X1_countOrders ⟨ml_X11_155, im_X1_countOrders, sl_X1_countOrders⟩ rfl (hR.kd (lvC h3 (by omega))) rfl (Nat.le_of_ble_eq_true rfl) (by simp) (by omega) (Nat.le_refl _) (Nat.le_refl _) rfl rfl (c_countOrders hR h3 hn hF) ?_
  intro M hR
  refine zs_ireturn dX11_orders_17 ⟨_, rfl, rfl⟩ ?_
  exact hQ _ hR
theorem f_join {i j : Nat} (hR : zRp Z Λ S M) (h3 : sc S 3 = 1) (hi : i < sc S 1) (hj : j < sc S 1) (hne : i ≠ j) : zG Z l 4 mth_X11_join [.ref (Λ 1), .int (nI i), .int (nI j)] M 0 0 (some (.int (fBc (sV S (140 + i) 168 ||| sV S (140 + j) 168)))) (zRp Z Λ (wV S (fMP (sV S (140 + i) 168 ||| sV S (140 + j) 168) (sc S 1) (sV S)))) := by
  intro Q hQ
  have hb0 := hR.bnd.1.1
  have hb1 := hR.bnd.1.2.1
  have hb2 := hR.bnd.1.2.2.1
  show zX Z l 4 mth_X11_join 0 [(0, .ref (Λ 1)), (1, .int (nI i)), (2, .int (nI j))] [] M 0 0 Q
  refine zs_aload_n (n := 1) dX11_join_0 rfl rfl ?_
  refine zs_iload_n (n := 2) dX11_join_1 rfl rfl ?_
  refine zs_iload_n (n := 3) dX11_join_2 rfl rfl ?_
  refine zc_V (n := 6) (As := [.int (nI i), .int (nI j)]) (ci := 16) (mc := 0) (ms := 0) dX11_join_3 ok_X11_requireTwoActs ⟨ml_X11_136, im_X11_requireTwoActs, sl_X11_requireTwoActs⟩ rfl (hR.kd (lvC h3 (by omega))) rfl (Nat.le_of_ble_eq_true rfl) (by simp) (by omega) (Nat.le_refl _) (Nat.le_refl _) rfl rfl (c_requireTwoActs hR h3 hi hj hne) ?_
  refine zs_aload_n (n := 7) dX11_join_6 rfl rfl ?_
  refine zs_getr (b := (Λ 2)) (n := 10) dX11_join_7 gf_X11_10 (hR.kd (lvC h3 (by omega))) (hR.pt (lvC h3 (by omega)) rfl (by decide)) rfl ?_
  refine zs_aload_n (n := 11) dX11_join_10 rfl rfl ?_
  refine zs_getr (b := (Λ 2)) (n := 14) dX11_join_11 gf_X11_10 (hR.kd (lvC h3 (by omega))) (hR.pt (lvC h3 (by omega)) rfl (by decide)) rfl ?_
  refine zs_getr (b := (Λ 17)) (n := 17) dX11_join_14 gf_X11_115 (hR.kd (lvC h3 (by omega))) (hR.pt (lvC h3 (by omega)) rfl (by decide)) rfl ?_
  refine zs_iload_n (n := 18) dX11_join_17 rfl rfl ?_
  refine zc_getb (c := sc S 1) (b := (Λ (140 + i))) (n := 21) dX11_join_18 ml_X11_103 (hR.lA h3) hi rfl (by simp) (by omega) rfl ?_
  refine zs_castS (ci := 5) (n := 24) dX11_join_21 rfl cl_X11_120 (hR.kA hi) rfl ?_
  refine zs_aload_n (n := 25) dX11_join_24 rfl rfl ?_
  refine zs_getr (b := (Λ 2)) (n := 28) dX11_join_25 gf_X11_10 (hR.kd (lvC h3 (by omega))) (hR.pt (lvC h3 (by omega)) rfl (by decide)) rfl ?_
  refine zs_getr (b := (Λ 17)) (n := 31) dX11_join_28 gf_X11_115 (hR.kd (lvC h3 (by omega))) (hR.pt (lvC h3 (by omega)) rfl (by decide)) rfl ?_
  refine zs_iload_n (n := 32) dX11_join_31 rfl rfl ?_
  refine zc_getb (c := sc S 1) (b := (Λ (140 + j))) (n := 35) dX11_join_32 ml_X11_103 (hR.lA h3) hj rfl (by simp) (by omega) rfl ?_
  refine zs_castS (ci := 5) (n := 38) dX11_join_35 rfl cl_X11_120 (hR.kA hj) rfl ?_
  refine zg_V (n := 41) (As := [.ref (Λ (140 + i)), .ref (Λ (140 + j))]) (ci := 12) (mc := 0) (ms := 0) dX11_join_38 ok_X7_makePartners ⟨ml_X11_261, im_X7_makePartners, sl_X7_makePartners⟩ rfl (hR.kd (lvC h3 (by omega))) rfl (Nat.le_of_ble_eq_true rfl) (by simp) (by omega) (Nat.le_refl _) (Nat.le_refl _) rfl rfl (c_makePartners hR h3 hi hj) ?_
  intro M hR
  refine zs_ireturn dX11_join_41 ⟨_, rfl, rfl⟩ ?_
  exact hQ _ hR
theorem f_play  (hR : zRp Z Λ S M) (h3 : sc S 3 = 1) (hp : sV S 7 228 = 0) (hC : ∀ j, j < sc S 2 → zCh (sV S (150 + j) 450)) : zG Z l 8 mth_X11_play [.ref (Λ 1)] M 0 0 (some (.int (gDay S 7 230))) (zRp Z Λ (wV S (gDay S))) := by
  intro Q hQ
  have hb0 := hR.bnd.1.1
  have hb1 := hR.bnd.1.2.1
  have hb2 := hR.bnd.1.2.2.1
  show zX Z l 8 mth_X11_play 0 [(0, .ref (Λ 1))] [] M 0 0 Q
  refine zs_aload_n (n := 1) dX11_play_0 rfl rfl ?_
  refine zc_V (n := 4) (As := []) (ci := 16) (mc := 0) (ms := 0) dX11_play_1 ok_X11_requireNotPlayed ⟨ml_X11_187, im_X11_requireNotPlayed, sl_X11_requireNotPlayed⟩ rfl (hR.kd (lvC h3 (by omega))) rfl (Nat.le_of_ble_eq_true rfl) (by simp) (by omega) (Nat.le_refl _) (Nat.le_refl _) rfl rfl (c_requireNotPlayed hR h3 hp) ?_
  refine zs_aload_n (n := 5) dX11_play_4 rfl rfl ?_
  refine zs_getr (b := (Λ 7)) (n := 8) dX11_play_5 gf_X11_49 (hR.kd (lvC h3 (by omega))) (hR.pt (lvC h3 (by omega)) rfl (by decide)) rfl ?_
  refine zg_V (n := 11) (As := []) (ci := 7) (mc := 0) (ms := 0) dX11_play_8 ok_X2_run ⟨ml_X11_265, im_X2_run, sl_X2_run⟩ rfl (hR.kd (lvC h3 (by omega))) rfl (Nat.le_of_ble_eq_true rfl) (by simp) (by omega) (Nat.le_refl _) (Nat.le_refl _) rfl rfl (c_run hR h3 hC) ?_
  intro M hR
  refine zs_aload_n (n := 12) dX11_play_11 rfl rfl ?_
  refine zs_getr (b := (Λ 7)) (n := 15) dX11_play_12 gf_X11_49 (hR.kd (lvC h3 (by omega))) (hR.pt (lvC h3 (by omega)) rfl (by decide)) rfl ?_
  refine zs_getv (x := (sV (wV S (gDay S)) 7 230)) (n := 18) dX11_play_15 gf_X11_268 (hR.kd (lvC h3 (by omega))) (hR.iv (lvC h3 (by omega)) (by decide) (by decide)) rfl ?_
  refine zs_ireturn dX11_play_18 ⟨_, rfl, rfl⟩ ?_
  exact hQ _ hR
end ZFACE
