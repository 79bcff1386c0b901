/-! FACE, at last but for what makes things -/
section ZFACE3
variable {Z : zPar} {l : Launch} {Λ : Nat → Nat} {S : zSt} {M : zMem}
/-- .. that throws k over a memory that R' holds of -/
def zGt (Z : zPar) (l : Launch) (d : Nat) (mm : zMeth) (As : List Value) (M : zMem) (mc ms : Nat) (k : Nat) (R' : zMem → Prop) : Prop := ∀ Q : zO → zMem → Prop, (∀ M', R' M' → Q (.inr k) M') → zX Z l d mm 0 (lv_args 0 As) [] M mc ms Q
theorem c_requireThing {x : Int32} (hx : x = 98 ∨ x = 101 ∨ x = 109 ∨ x = 115 ∨ x = 99 ∨ x = 100) : zD Z l 0 mth_X11_requireThing [.int x] M 0 0 none M := by
  intro Q hQ
  show zX Z l 0 mth_X11_requireThing 0 [(0, .int x)] [] M 0 0 Q
  rcases hx with rfl | rfl | rfl | rfl | rfl | rfl
  · refine zs_iload_n (n := 1) dX11_requireThing_0 rfl rfl ?_
    refine zs_bipush (v := 98) (n := 3) dX11_requireThing_1 (by decide) rfl ?_
    refine zs_icmp_eq (tgt := 47) (n := 6) dX11_requireThing_3 (by decide) rfl (fun _ => ?_) (fun h => absurd rfl h)
    refine zs_return dX11_requireThing_47 rfl ?_
    exact hQ
  · refine zs_iload_n (n := 1) dX11_requireThing_0 rfl rfl ?_
    refine zs_bipush (v := 98) (n := 3) dX11_requireThing_1 (by decide) rfl ?_
    refine zs_icmp_eq (tgt := 47) (n := 6) dX11_requireThing_3 (by decide) rfl (fun h => absurd h (by decide)) (fun _ => ?_)
    refine zs_iload_n (n := 7) dX11_requireThing_6 rfl rfl ?_
    refine zs_bipush (v := 101) (n := 9) dX11_requireThing_7 (by decide) rfl ?_
    refine zs_icmp_eq (tgt := 47) (n := 12) dX11_requireThing_9 (by decide) rfl (fun _ => ?_) (fun h => absurd rfl h)
    refine zs_return dX11_requireThing_47 rfl ?_
    exact hQ
  · refine zs_iload_n (n := 1) dX11_requireThing_0 rfl rfl ?_
    refine zs_bipush (v := 98) (n := 3) dX11_requireThing_1 (by decide) rfl ?_
    refine zs_icmp_eq (tgt := 47) (n := 6) dX11_requireThing_3 (by decide) rfl (fun h => absurd h (by decide)) (fun _ => ?_)
    refine zs_iload_n (n := 7) dX11_requireThing_6 rfl rfl ?_
    refine zs_bipush (v := 101) (n := 9) dX11_requireThing_7 (by decide) rfl ?_
    refine zs_icmp_eq (tgt := 47) (n := 12) dX11_requireThing_9 (by decide) rfl (fun h => absurd h (by decide)) (fun _ => ?_)
    refine zs_iload_n (n := 13) dX11_requireThing_12 rfl rfl ?_
    refine zs_bipush (v := 109) (n := 15) dX11_requireThing_13 (by decide) rfl ?_
    refine zs_icmp_eq (tgt := 47) (n := 18) dX11_requireThing_15 (by decide) rfl (fun _ => ?_) (fun h => absurd rfl h)
    refine zs_return dX11_requireThing_47 rfl ?_
    exact hQ
  · refine zs_iload_n (n := 1) dX11_requireThing_0 rfl rfl ?_
    refine zs_bipush (v := 98) (n := 3) dX11_requireThing_1 (by decide) rfl ?_
    refine zs_icmp_eq (tgt := 47) (n := 6) dX11_requireThing_3 (by decide) rfl (fun h => absurd h (by decide)) (fun _ => ?_)
    refine zs_iload_n (n := 7) dX11_requireThing_6 rfl rfl ?_
    refine zs_bipush (v := 101) (n := 9) dX11_requireThing_7 (by decide) rfl ?_
    refine zs_icmp_eq (tgt := 47) (n := 12) dX11_requireThing_9 (by decide) rfl (fun h => absurd h (by decide)) (fun _ => ?_)
    refine zs_iload_n (n := 13) dX11_requireThing_12 rfl rfl ?_
    refine zs_bipush (v := 109) (n := 15) dX11_requireThing_13 (by decide) rfl ?_
    refine zs_icmp_eq (tgt := 47) (n := 18) dX11_requireThing_15 (by decide) rfl (fun h => absurd h (by decide)) (fun _ => ?_)
    refine zs_iload_n (n := 19) dX11_requireThing_18 rfl rfl ?_
    refine zs_bipush (v := 115) (n := 21) dX11_requireThing_19 (by decide) rfl ?_
    refine zs_icmp_eq (tgt := 47) (n := 24) dX11_requireThing_21 (by decide) rfl (fun _ => ?_) (fun h => absurd rfl h)
    refine zs_return dX11_requireThing_47 rfl ?_
    exact hQ
  · refine zs_iload_n (n := 1) dX11_requireThing_0 rfl rfl ?_
    refine zs_bipush (v := 98) (n := 3) dX11_requireThing_1 (by decide) rfl ?_
    refine zs_icmp_eq (tgt := 47) (n := 6) dX11_requireThing_3 (by decide) rfl (fun h => absurd h (by decide)) (fun _ => ?_)
    refine zs_iload_n (n := 7) dX11_requireThing_6 rfl rfl ?_
    refine zs_bipush (v := 101) (n := 9) dX11_requireThing_7 (by decide) rfl ?_
    refine zs_icmp_eq (tgt := 47) (n := 12) dX11_requireThing_9 (by decide) rfl (fun h => absurd h (by decide)) (fun _ => ?_)
    refine zs_iload_n (n := 13) dX11_requireThing_12 rfl rfl ?_
    refine zs_bipush (v := 109) (n := 15) dX11_requireThing_13 (by decide) rfl ?_
    refine zs_icmp_eq (tgt := 47) (n := 18) dX11_requireThing_15 (by decide) rfl (fun h => absurd h (by decide)) (fun _ => ?_)
    refine zs_iload_n (n := 19) dX11_requireThing_18 rfl rfl ?_
    refine zs_bipush (v := 115) (n := 21) dX11_requireThing_19 (by decide) rfl ?_
    refine zs_icmp_eq (tgt := 47) (n := 24) dX11_requireThing_21 (by decide) rfl (fun h => absurd h (by decide)) (fun _ => ?_)
    refine zs_iload_n (n := 25) dX11_requireThing_24 rfl rfl ?_
    refine zs_bipush (v := 99) (n := 27) dX11_requireThing_25 (by decide) rfl ?_
    refine zs_icmp_eq (tgt := 47) (n := 30) dX11_requireThing_27 (by decide) rfl (fun _ => ?_) (fun h => absurd rfl h)
    refine zs_return dX11_requireThing_47 rfl ?_
    exact hQ
  · refine zs_iload_n (n := 1) dX11_requireThing_0 rfl rfl ?_
    refine zs_bipush (v := 98) (n := 3) dX11_requireThing_1 (by decide) rfl ?_
    refine zs_icmp_eq (tgt := 47) (n := 6) dX11_requireThing_3 (by decide) rfl (fun h => absurd h (by decide)) (fun _ => ?_)
    refine zs_iload_n (n := 7) dX11_requireThing_6 rfl rfl ?_
    refine zs_bipush (v := 101) (n := 9) dX11_requireThing_7 (by decide) rfl ?_
    refine zs_icmp_eq (tgt := 47) (n := 12) dX11_requireThing_9 (by decide) rfl (fun h => absurd h (by decide)) (fun _ => ?_)
    refine zs_iload_n (n := 13) dX11_requireThing_12 rfl rfl ?_
    refine zs_bipush (v := 109) (n := 15) dX11_requireThing_13 (by decide) rfl ?_
    refine zs_icmp_eq (tgt := 47) (n := 18) dX11_requireThing_15 (by decide) rfl (fun h => absurd h (by decide)) (fun _ => ?_)
    refine zs_iload_n (n := 19) dX11_requireThing_18 rfl rfl ?_
    refine zs_bipush (v := 115) (n := 21) dX11_requireThing_19 (by decide) rfl ?_
    refine zs_icmp_eq (tgt := 47) (n := 24) dX11_requireThing_21 (by decide) rfl (fun h => absurd h (by decide)) (fun _ => ?_)
    refine zs_iload_n (n := 25) dX11_requireThing_24 rfl rfl ?_
    refine zs_bipush (v := 99) (n := 27) dX11_requireThing_25 (by decide) rfl ?_
    refine zs_icmp_eq (tgt := 47) (n := 30) dX11_requireThing_27 (by decide) rfl (fun h => absurd h (by decide)) (fun _ => ?_)
    refine zs_iload_n (n := 31) dX11_requireThing_30 rfl rfl ?_
    refine zs_bipush (v := 100) (n := 33) dX11_requireThing_31 (by decide) rfl ?_
    refine zs_icmp_eq (tgt := 47) (n := 36) dX11_requireThing_33 (by decide) rfl (fun _ => ?_) (fun h => absurd rfl h)
    refine zs_return dX11_requireThing_47 rfl ?_
    exact hQ
theorem t_requireThing {x : Int32} (h1 : ¬ x = 98) (h2 : ¬ x = 101) (h4 : ¬ x = 109) (h5 : ¬ x = 115) (h6 : ¬ x = 99) (h7 : ¬ x = 100) : zTw Z l 0 mth_X11_requireThing [.int x] M 1 6 0 M := by
  intro Q hQ
  show zX Z l 0 mth_X11_requireThing 0 [(0, .int x)] [] M 1 6 Q
  refine zs_iload_n (n := 1) dX11_requireThing_0 rfl rfl ?_
  refine zs_bipush (v := 98) (n := 3) dX11_requireThing_1 (by decide) rfl ?_
  refine zs_icmp_eq (tgt := 47) (n := 6) dX11_requireThing_3 (by decide) rfl (fun h => absurd h h1) (fun _ => ?_)
  refine zs_iload_n (n := 7) dX11_requireThing_6 rfl rfl ?_
  refine zs_bipush (v := 101) (n := 9) dX11_requireThing_7 (by decide) rfl ?_
  refine zs_icmp_eq (tgt := 47) (n := 12) dX11_requireThing_9 (by decide) rfl (fun h => absurd h h2) (fun _ => ?_)
  refine zs_iload_n (n := 13) dX11_requireThing_12 rfl rfl ?_
  refine zs_bipush (v := 109) (n := 15) dX11_requireThing_13 (by decide) rfl ?_
  refine zs_icmp_eq (tgt := 47) (n := 18) dX11_requireThing_15 (by decide) rfl (fun h => absurd h h4) (fun _ => ?_)
  refine zs_iload_n (n := 19) dX11_requireThing_18 rfl rfl ?_
  refine zs_bipush (v := 115) (n := 21) dX11_requireThing_19 (by decide) rfl ?_
  refine zs_icmp_eq (tgt := 47) (n := 24) dX11_requireThing_21 (by decide) rfl (fun h => absurd h h5) (fun _ => ?_)
  refine zs_iload_n (n := 25) dX11_requireThing_24 rfl rfl ?_
  refine zs_bipush (v := 99) (n := 27) dX11_requireThing_25 (by decide) rfl ?_
  refine zs_icmp_eq (tgt := 47) (n := 30) dX11_requireThing_27 (by decide) rfl (fun h => absurd h h6) (fun _ => ?_)
  refine zs_iload_n (n := 31) dX11_requireThing_30 rfl rfl ?_
  refine zs_bipush (v := 100) (n := 33) dX11_requireThing_31 (by decide) rfl ?_
  refine zs_icmp_eq (tgt := 47) (n := 36) dX11_requireThing_33 (by decide) rfl (fun h => absurd h h7) (fun _ => ?_)
  exact zs_throw thr_X11_requireThing_36 rfl (by simp) (Nat.le_refl _) (Nat.le_refl _) hQ
theorem f_of {i k : Nat} {x : Int32} (hR : zRp Z Λ S M) (h3 : sc S 3 = 1) (hi : i < sc S 0) (hx : x = 98 ∨ x = 101 ∨ x = 109 ∨ x = 115 ∨ x = 99 ∨ x = 100) (hp : ¬ sV S 7 228 = 0) (hk : k < sc S (10 + i)) (hw : ¬ sV S (160 + 8 * i + k) 423 = 0) : zD Z l 4 mth_X11_of [.ref (Λ 1), .int (nI i), .int (nI k), .int x] M 0 0 (some (.int (fTell S (160 + 8 * i + k) x))) M := by
  intro Q hQ
  have hb0 := hR.bnd.1.1
  have hb1 := hR.bnd.1.2.1
  have hb2 := hR.bnd.1.2.2.1
  show zX Z l 4 mth_X11_of 0 [(0, .ref (Λ 1)), (1, .int (nI i)), (2, .int (nI k)), (3, .int x)] [] M 0 0 Q
  refine zs_aload_n (n := 1) dX11_of_0 rfl rfl ?_
  refine zs_iload_n (n := 2) dX11_of_1 rfl rfl ?_
  refine zc_V (n := 5) (As := [.int (nI i)]) (ci := 16) (mc := 0) (ms := 0) dX11_of_2 ok_X11_requirePitch ⟨ml_X11_99, im_X11_requirePitch, sl_X11_requirePitch⟩ rfl (hR.kd (lvC h3 (by omega))) rfl (Nat.le_of_ble_eq_true rfl) (by simp) (by omega) (Nat.le_refl _) (Nat.le_refl _) rfl rfl (c_requirePitch hR h3 hi) ?_
  refine zs_iload_n (n := 6) dX11_of_5 rfl rfl ?_
  refine zc_S (n := 9) (As := [.int x]) (mc := 0) (ms := 0) dX11_of_6 ok_X11_requireThing ⟨ml_X11_271, st_X11_requireThing⟩ rfl (Nat.le_of_ble_eq_true rfl) (by simp) (by omega) (Nat.le_refl _) (Nat.le_refl _) rfl rfl (c_requireThing hx) ?_
  refine zs_aload_n (n := 10) dX11_of_9 rfl rfl ?_
  refine zc_V (n := 13) (As := []) (ci := 16) (mc := 0) (ms := 0) dX11_of_10 ok_X11_requirePlayed ⟨ml_X11_275, im_X11_requirePlayed, sl_X11_requirePlayed⟩ rfl (hR.kd (lvC h3 (by omega))) rfl (Nat.le_of_ble_eq_true rfl) (by simp) (by omega) (Nat.le_refl _) (Nat.le_refl _) rfl rfl (c_requirePlayed hR h3 hp) ?_
  refine zs_aload_n (n := 14) dX11_of_13 rfl rfl ?_
  refine zs_iload_n (n := 15) dX11_of_14 rfl rfl ?_
  refine zs_iload_n (n := 16) dX11_of_15 rfl rfl ?_
  refine zc_V (n := 19) (As := [.int (nI i), .int (nI k)]) (ci := 16) (mc := 0) (ms := 0) dX11_of_16 ok_X11_requirePlayedTurn ⟨ml_X11_278, im_X11_requirePlayedTurn, sl_X11_requirePlayedTurn⟩ rfl (hR.kd (lvC h3 (by omega))) rfl (Nat.le_of_ble_eq_true rfl) (by simp) (by omega) (Nat.le_refl _) (Nat.le_refl _) rfl rfl (c_requirePlayedTurn hR h3 hi hk hw) ?_
  refine zs_aload_n (n := 20) dX11_of_19 rfl rfl ?_
  refine zs_getr (b := (Λ 2)) (n := 23) dX11_of_20 gf_X11_10 (hR.kd (lvC h3 (by omega))) (hR.pt (lvC h3 (by omega)) rfl (by decide)) rfl ?_
  refine zs_getr (b := (Λ 15)) (n := 26) dX11_of_23 gf_X11_75 (hR.kd (lvC h3 (by omega))) (hR.pt (lvC h3 (by omega)) rfl (by decide)) rfl ?_
  refine zs_iload_n (n := 27) dX11_of_26 rfl rfl ?_
  refine zc_getb (c := sc S 0) (b := (Λ (100 + i))) (n := 30) dX11_of_27 ml_X11_103 (hR.lP h3) hi rfl (by simp) (by omega) rfl ?_
  refine zs_castS (ci := 11) (n := 33) dX11_of_30 rfl cl_X11_90 (hR.kP hi) rfl ?_
  refine zs_getr (b := (Λ (120 + i))) (n := 36) dX11_of_33 gf_X11_190 (hR.kP hi) (hR.pT hi) rfl ?_
  refine zs_iload_n (n := 37) dX11_of_36 rfl rfl ?_
  refine zc_getb (c := sc S (10 + i)) (b := (Λ (160 + 8 * i + k))) (n := 40) dX11_of_37 ml_X11_103 (hR.lT hi) hk rfl (by simp) (by omega) rfl ?_
  refine zs_castS (ci := 13) (n := 43) dX11_of_40 rfl cl_X11_198 (hR.kK hi hk) rfl ?_
  refine zs_iload_n (n := 44) dX11_of_43 rfl rfl ?_
  refine zc_V (n := 47) (As := [.int x]) (ci := 13) (mc := 0) (ms := 0) dX11_of_44 ok_X8_tell ⟨ml_X11_281, im_X8_tell, sl_X8_tell⟩ rfl (hR.kK hi hk) rfl (Nat.le_of_ble_eq_true rfl) (by simp) (by omega) (Nat.le_refl _) (Nat.le_refl _) rfl rfl (c_tell hR hi hk hx) ?_
  refine zs_ireturn dX11_of_47 ⟨_, rfl, rfl⟩ ?_
  exact hQ
theorem f_of_0 {p q x : Int32} (hR : zRp Z Λ S M) (h3 : sc S 3 = 1) (hx9 : ¬ (¬ p < 0 ∧ ¬ nI (sc S 0) ≤ p)) : zTw Z l 4 mth_X11_of [.ref (Λ 1), .int p, .int q, .int x] M 1 6 2 M := by
  intro Q hQ
  have hb0 := hR.bnd.1.1
  have hb1 := hR.bnd.1.2.1
  have hb2 := hR.bnd.1.2.2.1
  show zX Z l 4 mth_X11_of 0 [(0, .ref (Λ 1)), (1, .int p), (2, .int q), (3, .int x)] [] M 1 6 Q
  refine zs_aload_n (n := 1) dX11_of_0 rfl rfl ?_
  refine zs_iload_n (n := 2) dX11_of_1 rfl rfl ?_
  exact zt_V (As := [.int p]) (ci := 16) (mc := 1) (ms := 6) (nc1 := 0) (ns1 := 0) dX11_of_2 ok_X11_requirePitch ⟨ml_X11_99, im_X11_requirePitch, sl_X11_requirePitch⟩ rfl (hR.kd (lvC h3 (by omega))) rfl (Nat.le_of_ble_eq_true rfl) (by simp) (by omega) (Nat.le_refl _) (Nat.le_refl _) rfl (t_requirePitch hR h3 hx9) (Or.inl ⟨rfl, hQ⟩)
theorem f_of_1 {i : Nat} {q x : Int32} (hR : zRp Z Λ S M) (h3 : sc S 3 = 1) (hi : i < sc S 0) (h1 : ¬ x = 98) (h2 : ¬ x = 101) (h4 : ¬ x = 109) (h5 : ¬ x = 115) (h6 : ¬ x = 99) (h7 : ¬ x = 100) : zTw Z l 4 mth_X11_of [.ref (Λ 1), .int (nI i), .int q, .int x] M 1 6 0 M := by
  intro Q hQ
  have hb0 := hR.bnd.1.1
  have hb1 := hR.bnd.1.2.1
  have hb2 := hR.bnd.1.2.2.1
  show zX Z l 4 mth_X11_of 0 [(0, .ref (Λ 1)), (1, .int (nI i)), (2, .int q), (3, .int x)] [] M 1 6 Q
  refine zs_aload_n (n := 1) dX11_of_0 rfl rfl ?_
  refine zs_iload_n (n := 2) dX11_of_1 rfl rfl ?_
  refine zc_V (n := 5) (As := [.int (nI i)]) (ci := 16) (mc := 0) (ms := 0) dX11_of_2 ok_X11_requirePitch ⟨ml_X11_99, im_X11_requirePitch, sl_X11_requirePitch⟩ rfl (hR.kd (lvC h3 (by omega))) rfl (Nat.le_of_ble_eq_true rfl) (by simp) (by omega) (Nat.le_refl _) (Nat.le_refl _) rfl rfl (c_requirePitch hR h3 hi) ?_
  refine zs_iload_n (n := 6) dX11_of_5 rfl rfl ?_
  exact zt_S (As := [.int x]) (mc := 1) (ms := 6) (nc1 := 0) (ns1 := 0) dX11_of_6 ok_X11_requireThing ⟨ml_X11_271, st_X11_requireThing⟩ rfl (Nat.le_of_ble_eq_true rfl) (by simp) (by omega) (Nat.le_refl _) (Nat.le_refl _) rfl (t_requireThing h1 h2 h4 h5 h6 h7) (Or.inl ⟨rfl, hQ⟩)
theorem f_of_2 {i : Nat} {q x : Int32} (hR : zRp Z Λ S M) (h3 : sc S 3 = 1) (hi : i < sc S 0) (hx : x = 98 ∨ x = 101 ∨ x = 109 ∨ x = 115 ∨ x = 99 ∨ x = 100) (hp : sV S 7 228 = 0) : zTw Z l 4 mth_X11_of [.ref (Λ 1), .int (nI i), .int q, .int x] M 1 6 1 M := by
  intro Q hQ
  have hb0 := hR.bnd.1.1
  have hb1 := hR.bnd.1.2.1
  have hb2 := hR.bnd.1.2.2.1
  show zX Z l 4 mth_X11_of 0 [(0, .ref (Λ 1)), (1, .int (nI i)), (2, .int q), (3, .int x)] [] M 1 6 Q
  refine zs_aload_n (n := 1) dX11_of_0 rfl rfl ?_
  refine zs_iload_n (n := 2) dX11_of_1 rfl rfl ?_
  refine zc_V (n := 5) (As := [.int (nI i)]) (ci := 16) (mc := 0) (ms := 0) dX11_of_2 ok_X11_requirePitch ⟨ml_X11_99, im_X11_requirePitch, sl_X11_requirePitch⟩ rfl (hR.kd (lvC h3 (by omega))) rfl (Nat.le_of_ble_eq_true rfl) (by simp) (by omega) (Nat.le_refl _) (Nat.le_refl _) rfl rfl (c_requirePitch hR h3 hi) ?_
  refine zs_iload_n (n := 6) dX11_of_5 rfl rfl ?_
  refine zc_S (n := 9) (As := [.int x]) (mc := 0) (ms := 0) dX11_of_6 ok_X11_requireThing ⟨ml_X11_271, st_X11_requireThing⟩ rfl (Nat.le_of_ble_eq_true rfl) (by simp) (by omega) (Nat.le_refl _) (Nat.le_refl _) rfl rfl (c_requireThing hx) ?_
  refine zs_aload_n (n := 10) dX11_of_9 rfl rfl ?_
  exact zt_V (As := []) (ci := 16) (mc := 1) (ms := 6) (nc1 := 0) (ns1 := 0) dX11_of_10 ok_X11_requirePlayed ⟨ml_X11_275, im_X11_requirePlayed, sl_X11_requirePlayed⟩ rfl (hR.kd (lvC h3 (by omega))) rfl (Nat.le_of_ble_eq_true rfl) (by simp) (by omega) (Nat.le_refl _) (Nat.le_refl _) rfl (t_requirePlayed hR h3 hp) (Or.inl ⟨rfl, hQ⟩)
theorem f_of_3 {i : Nat} {q x : Int32} (hR : zRp Z Λ S M) (h3 : sc S 3 = 1) (hi : i < sc S 0) (hx : x = 98 ∨ x = 101 ∨ x = 109 ∨ x = 115 ∨ x = 99 ∨ x = 100) (hp : ¬ sV S 7 228 = 0) (hx9 : ¬ (¬ q < 0 ∧ ¬ nI (sc S (10 + i)) ≤ q)) : zTw Z l 4 mth_X11_of [.ref (Λ 1), .int (nI i), .int q, .int x] M 1 6 5 M := by
  intro Q hQ
  have hb0 := hR.bnd.1.1
  have hb1 := hR.bnd.1.2.1
  have hb2 := hR.bnd.1.2.2.1
  show zX Z l 4 mth_X11_of 0 [(0, .ref (Λ 1)), (1, .int (nI i)), (2, .int q), (3, .int x)] [] M 1 6 Q
  refine zs_aload_n (n := 1) dX11_of_0 rfl rfl ?_
  refine zs_iload_n (n := 2) dX11_of_1 rfl rfl ?_
  refine zc_V (n := 5) (As := [.int (nI i)]) (ci := 16) (mc := 0) (ms := 0) dX11_of_2 ok_X11_requirePitch ⟨ml_X11_99, im_X11_requirePitch, sl_X11_requirePitch⟩ rfl (hR.kd (lvC h3 (by omega))) rfl (Nat.le_of_ble_eq_true rfl) (by simp) (by omega) (Nat.le_refl _) (Nat.le_refl _) rfl rfl (c_requirePitch hR h3 hi) ?_
  refine zs_iload_n (n := 6) dX11_of_5 rfl rfl ?_
  refine zc_S (n := 9) (As := [.int x]) (mc := 0) (ms := 0) dX11_of_6 ok_X11_requireThing ⟨ml_X11_271, st_X11_requireThing⟩ rfl (Nat.le_of_ble_eq_true rfl) (by simp) (by omega) (Nat.le_refl _) (Nat.le_refl _) rfl rfl (c_requireThing hx) ?_
  refine zs_aload_n (n := 10) dX11_of_9 rfl rfl ?_
  refine zc_V (n := 13) (As := []) (ci := 16) (mc := 0) (ms := 0) dX11_of_10 ok_X11_requirePlayed ⟨ml_X11_275, im_X11_requirePlayed, sl_X11_requirePlayed⟩ rfl (hR.kd (lvC h3 (by omega))) rfl (Nat.le_of_ble_eq_true rfl) (by simp) (by omega) (Nat.le_refl _) (Nat.le_refl _) rfl rfl (c_requirePlayed hR h3 hp) ?_
  refine zs_aload_n (n := 14) dX11_of_13 rfl rfl ?_
  refine zs_iload_n (n := 15) dX11_of_14 rfl rfl ?_
  refine zs_iload_n (n := 16) dX11_of_15 rfl rfl ?_
  exact zt_V (As := [.int (nI i), .int q]) (ci := 16) (mc := 1) (ms := 6) (nc1 := 0) (ns1 := 0) dX11_of_16 ok_X11_requirePlayedTurn ⟨ml_X11_278, im_X11_requirePlayedTurn, sl_X11_requirePlayedTurn⟩ rfl (hR.kd (lvC h3 (by omega))) rfl (Nat.le_of_ble_eq_true rfl) (by simp) (by omega) (Nat.le_refl _) (Nat.le_refl _) rfl (t_requirePlayedTurn0 hR h3 hi hx9) (Or.inl ⟨rfl, hQ⟩)
theorem f_of_4 {i k : Nat} {x : Int32} (hR : zRp Z Λ S M) (h3 : sc S 3 = 1) (hi : i < sc S 0) (hx : x = 98 ∨ x = 101 ∨ x = 109 ∨ x = 115 ∨ x = 99 ∨ x = 100) (hp : ¬ sV S 7 228 = 0) (hk : k < sc S (10 + i)) (hw : sV S (160 + 8 * i + k) 423 = 0) : zTw Z l 4 mth_X11_of [.ref (Λ 1), .int (nI i), .int (nI k), .int x] M 1 6 5 M := by
  intro Q hQ
  have hb0 := hR.bnd.1.1
  have hb1 := hR.bnd.1.2.1
  have hb2 := hR.bnd.1.2.2.1
  show zX Z l 4 mth_X11_of 0 [(0, .ref (Λ 1)), (1, .int (nI i)), (2, .int (nI k)), (3, .int x)] [] M 1 6 Q
  refine zs_aload_n (n := 1) dX11_of_0 rfl rfl ?_
  refine zs_iload_n (n := 2) dX11_of_1 rfl rfl ?_
  refine zc_V (n := 5) (As := [.int (nI i)]) (ci := 16) (mc := 0) (ms := 0) dX11_of_2 ok_X11_requirePitch ⟨ml_X11_99, im_X11_requirePitch, sl_X11_requirePitch⟩ rfl (hR.kd (lvC h3 (by omega))) rfl (Nat.le_of_ble_eq_true rfl) (by simp) (by omega) (Nat.le_refl _) (Nat.le_refl _) rfl rfl (c_requirePitch hR h3 hi) ?_
  refine zs_iload_n (n := 6) dX11_of_5 rfl rfl ?_
  refine zc_S (n := 9) (As := [.int x]) (mc := 0) (ms := 0) dX11_of_6 ok_X11_requireThing ⟨ml_X11_271, st_X11_requireThing⟩ rfl (Nat.le_of_ble_eq_true rfl) (by simp) (by omega) (Nat.le_refl _) (Nat.le_refl _) rfl rfl (c_requireThing hx) ?_
  refine zs_aload_n (n := 10) dX11_of_9 rfl rfl ?_
  refine zc_V (n := 13) (As := []) (ci := 16) (mc := 0) (ms := 0) dX11_of_10 ok_X11_requirePlayed ⟨ml_X11_275, im_X11_requirePlayed, sl_X11_requirePlayed⟩ rfl (hR.kd (lvC h3 (by omega))) rfl (Nat.le_of_ble_eq_true rfl) (by simp) (by omega) (Nat.le_refl _) (Nat.le_refl _) rfl rfl (c_requirePlayed hR h3 hp) ?_
  refine zs_aload_n (n := 14) dX11_of_13 rfl rfl ?_
  refine zs_iload_n (n := 15) dX11_of_14 rfl rfl ?_
  refine zs_iload_n (n := 16) dX11_of_15 rfl rfl ?_
  exact zt_V (As := [.int (nI i), .int (nI k)]) (ci := 16) (mc := 1) (ms := 6) (nc1 := 0) (ns1 := 0) dX11_of_16 ok_X11_requirePlayedTurn ⟨ml_X11_278, im_X11_requirePlayedTurn, sl_X11_requirePlayedTurn⟩ rfl (hR.kd (lvC h3 (by omega))) rfl (Nat.le_of_ble_eq_true rfl) (by simp) (by omega) (Nat.le_refl _) (Nat.le_refl _) rfl (t_requirePlayedTurn1 hR h3 hi hk hw) (Or.inl ⟨rfl, hQ⟩)
theorem f_orderAt_0 {p q : Int32} (hR : zRp Z Λ S M) (h3 : sc S 3 = 1) (hx9 : p < 0) : zTw Z l 4 mth_X11_orderAt [.ref (Λ 1), .int p, .int q] M 1 6 5 M := by
  intro Q hQ
  have hb0 := hR.bnd.1.1
  have hb1 := hR.bnd.1.2.1
  have hb2 := hR.bnd.1.2.2.1
  show zX Z l 4 mth_X11_orderAt 0 [(0, .ref (Λ 1)), (1, .int p), (2, .int q)] [] M 1 6 Q
  refine zs_aload_n (n := 1) dX11_orderAt_0 rfl rfl ?_
  refine zs_getr (b := (Λ 2)) (n := 4) dX11_orderAt_1 gf_X11_10 (hR.kd (lvC h3 (by omega))) (hR.pt (lvC h3 (by omega)) rfl (by decide)) rfl ?_
  refine zs_getr (b := (Λ 17)) (n := 7) dX11_orderAt_4 gf_X11_115 (hR.kd (lvC h3 (by omega))) (hR.pt (lvC h3 (by omega)) rfl (by decide)) rfl ?_
  refine zc_size (c := sc S 1) (n := 10) dX11_orderAt_7 ml_X11_79 (hR.lA h3) (by simp) (by omega) rfl ?_
  refine zs_istore_n (n := 11) dX11_orderAt_10 (by decide) rfl ?_
  refine zs_iload_n (n := 12) dX11_orderAt_11 rfl rfl ?_
  refine zs_if_lt (tgt := 27) (n := 15) dX11_orderAt_12 (by decide) rfl (fun _ => ?_) (fun h => absurd hx9 h)
  exact zs_throw thr_X11_orderAt_27 rfl (by simp) (Nat.le_refl _) (Nat.le_refl _) hQ
theorem f_orderAt_1 {F : Nat} {p q : Int32} (hR : zRp Z Λ S M) (h3 : sc S 3 = 1) (hF : F + 1 = 2 ^ sc S 1) (hx9 : ¬ p < 0) (hx8 : ¬ p < fWay S (sc S 1) F F 10 0) : zGt Z l 4 mth_X11_orderAt [.ref (Λ 1), .int p, .int q] M 1 6 5 (zRp Z Λ (wW S (fWay S (sc S 1) F F))) := by
  intro Q hQ
  have hn : sc S 1 ≤ 8 := hR.bnd.1.2.1
  show zX Z l 4 mth_X11_orderAt 0 [(0, .ref (Λ 1)), (1, .int p), (2, .int q)] [] M 1 6 Q
  refine zs_aload_n (n := 1) dX11_orderAt_0 rfl rfl ?_
  refine zs_getr (b := (Λ 2)) (n := 4) dX11_orderAt_1 gf_X11_10 (hR.kd (lvC h3 (by omega))) (hR.pt (lvC h3 (by omega)) rfl (by decide)) rfl ?_
  refine zs_getr (b := (Λ 17)) (n := 7) dX11_orderAt_4 gf_X11_115 (hR.kd (lvC h3 (by omega))) (hR.pt (lvC h3 (by omega)) rfl (by decide)) rfl ?_
  refine zc_size (c := sc S 1) (n := 10) dX11_orderAt_7 ml_X11_79 (hR.lA h3) (by simp) (by omega) rfl ?_
  refine zs_istore_n (n := 11) dX11_orderAt_10 (by decide) rfl ?_
  refine zs_iload_n (n := 12) dX11_orderAt_11 rfl rfl ?_
  refine zs_if_lt (tgt := 27) (n := 15) dX11_orderAt_12 (by decide) rfl (fun h => absurd h hx9) (fun _ => ?_)
  refine zs_iload_n (n := 16) dX11_orderAt_15 rfl rfl ?_
  refine zs_aload_n (n := 17) dX11_orderAt_16 rfl rfl ?_
  refine zs_getr (b := (Λ 3)) (n := 20) dX11_orderAt_17 gf_X11_19 (hR.kd (lvC h3 (by omega))) (hR.pt (lvC h3 (by omega)) rfl (by decide)) rfl ?_
  refine zs_iload_n (n := 21) dX11_orderAt_20 rfl rfl ?_
  refine zg_V (n := 24) (As := [.int (nI (sc S 1))]) (ci := 6) (mc := 0) (ms := 0) dX11_orderAt_21 ok_X1_countOrders ⟨ml_X11_155, im_X1_countOrders, sl_X1_countOrders⟩ rfl (hR.kd (lvC h3 (by omega))) rfl (Nat.le_of_ble_eq_true rfl) (by simp) (by omega) (Nat.le_refl _) (Nat.le_refl _) rfl rfl (c_countOrders hR h3 hn hF) ?_
  intro M hR
  refine zs_icmp_lt (tgt := 37) (n := 27) dX11_orderAt_24 (by decide) rfl (fun h => absurd h hx8) (fun _ => ?_)
  exact zs_throw thr_X11_orderAt_27 rfl (by simp) (Nat.le_refl _) (Nat.le_refl _) (hQ _ hR)
theorem f_orderAt_2 {F : Nat} {p q : Int32} (hR : zRp Z Λ S M) (h3 : sc S 3 = 1) (hF : F + 1 = 2 ^ sc S 1) (hx9 : ¬ p < 0) (hx8 : p < fWay S (sc S 1) F F 10 0) (hq : q < 0) : zGt Z l 4 mth_X11_orderAt [.ref (Λ 1), .int p, .int q] M 1 6 5 (zRp Z Λ (wW S (fWay S (sc S 1) F F))) := by
  intro Q hQ
  have hn : sc S 1 ≤ 8 := hR.bnd.1.2.1
  show zX Z l 4 mth_X11_orderAt 0 [(0, .ref (Λ 1)), (1, .int p), (2, .int q)] [] M 1 6 Q
  refine zs_aload_n (n := 1) dX11_orderAt_0 rfl rfl ?_
  refine zs_getr (b := (Λ 2)) (n := 4) dX11_orderAt_1 gf_X11_10 (hR.kd (lvC h3 (by omega))) (hR.pt (lvC h3 (by omega)) rfl (by decide)) rfl ?_
  refine zs_getr (b := (Λ 17)) (n := 7) dX11_orderAt_4 gf_X11_115 (hR.kd (lvC h3 (by omega))) (hR.pt (lvC h3 (by omega)) rfl (by decide)) rfl ?_
  refine zc_size (c := sc S 1) (n := 10) dX11_orderAt_7 ml_X11_79 (hR.lA h3) (by simp) (by omega) rfl ?_
  refine zs_istore_n (n := 11) dX11_orderAt_10 (by decide) rfl ?_
  refine zs_iload_n (n := 12) dX11_orderAt_11 rfl rfl ?_
  refine zs_if_lt (tgt := 27) (n := 15) dX11_orderAt_12 (by decide) rfl (fun h => absurd h hx9) (fun _ => ?_)
  refine zs_iload_n (n := 16) dX11_orderAt_15 rfl rfl ?_
  refine zs_aload_n (n := 17) dX11_orderAt_16 rfl rfl ?_
  refine zs_getr (b := (Λ 3)) (n := 20) dX11_orderAt_17 gf_X11_19 (hR.kd (lvC h3 (by omega))) (hR.pt (lvC h3 (by omega)) rfl (by decide)) rfl ?_
  refine zs_iload_n (n := 21) dX11_orderAt_20 rfl rfl ?_
  refine zg_V (n := 24) (As := [.int (nI (sc S 1))]) (ci := 6) (mc := 0) (ms := 0) dX11_orderAt_21 ok_X1_countOrders ⟨ml_X11_155, im_X1_countOrders, sl_X1_countOrders⟩ rfl (hR.kd (lvC h3 (by omega))) rfl (Nat.le_of_ble_eq_true rfl) (by simp) (by omega) (Nat.le_refl _) (Nat.le_refl _) rfl rfl (c_countOrders hR h3 hn hF) ?_
  intro M hR
  refine zs_icmp_lt (tgt := 37) (n := 27) dX11_orderAt_24 (by decide) rfl (fun _ => ?_) (fun h => absurd hx8 h)
  refine zs_iload_n (n := 38) dX11_orderAt_37 rfl rfl ?_
  refine zs_if_lt (tgt := 46) (n := 41) dX11_orderAt_38 (by decide) rfl (fun _ => ?_) (fun h => absurd hq h)
  exact zs_throw thr_X11_orderAt_46 rfl (by simp) (Nat.le_refl _) (Nat.le_refl _) (hQ _ hR)
theorem f_orderAt_3 {F : Nat} {p q : Int32} (hR : zRp Z Λ S M) (h3 : sc S 3 = 1) (hF : F + 1 = 2 ^ sc S 1) (hx9 : ¬ p < 0) (hx8 : p < fWay S (sc S 1) F F 10 0) (hq : ¬ q < 0) (hq2 : ¬ q < nI (sc S 1)) : zGt Z l 4 mth_X11_orderAt [.ref (Λ 1), .int p, .int q] M 1 6 5 (zRp Z Λ (wW S (fWay S (sc S 1) F F))) := by
  intro Q hQ
  have hn : sc S 1 ≤ 8 := hR.bnd.1.2.1
  show zX Z l 4 mth_X11_orderAt 0 [(0, .ref (Λ 1)), (1, .int p), (2, .int q)] [] M 1 6 Q
  refine zs_aload_n (n := 1) dX11_orderAt_0 rfl rfl ?_
  refine zs_getr (b := (Λ 2)) (n := 4) dX11_orderAt_1 gf_X11_10 (hR.kd (lvC h3 (by omega))) (hR.pt (lvC h3 (by omega)) rfl (by decide)) rfl ?_
  refine zs_getr (b := (Λ 17)) (n := 7) dX11_orderAt_4 gf_X11_115 (hR.kd (lvC h3 (by omega))) (hR.pt (lvC h3 (by omega)) rfl (by decide)) rfl ?_
  refine zc_size (c := sc S 1) (n := 10) dX11_orderAt_7 ml_X11_79 (hR.lA h3) (by simp) (by omega) rfl ?_
  refine zs_istore_n (n := 11) dX11_orderAt_10 (by decide) rfl ?_
  refine zs_iload_n (n := 12) dX11_orderAt_11 rfl rfl ?_
  refine zs_if_lt (tgt := 27) (n := 15) dX11_orderAt_12 (by decide) rfl (fun h => absurd h hx9) (fun _ => ?_)
  refine zs_iload_n (n := 16) dX11_orderAt_15 rfl rfl ?_
  refine zs_aload_n (n := 17) dX11_orderAt_16 rfl rfl ?_
  refine zs_getr (b := (Λ 3)) (n := 20) dX11_orderAt_17 gf_X11_19 (hR.kd (lvC h3 (by omega))) (hR.pt (lvC h3 (by omega)) rfl (by decide)) rfl ?_
  refine zs_iload_n (n := 21) dX11_orderAt_20 rfl rfl ?_
  refine zg_V (n := 24) (As := [.int (nI (sc S 1))]) (ci := 6) (mc := 0) (ms := 0) dX11_orderAt_21 ok_X1_countOrders ⟨ml_X11_155, im_X1_countOrders, sl_X1_countOrders⟩ rfl (hR.kd (lvC h3 (by omega))) rfl (Nat.le_of_ble_eq_true rfl) (by simp) (by omega) (Nat.le_refl _) (Nat.le_refl _) rfl rfl (c_countOrders hR h3 hn hF) ?_
  intro M hR
  refine zs_icmp_lt (tgt := 37) (n := 27) dX11_orderAt_24 (by decide) rfl (fun _ => ?_) (fun h => absurd hx8 h)
  refine zs_iload_n (n := 38) dX11_orderAt_37 rfl rfl ?_
  refine zs_if_lt (tgt := 46) (n := 41) dX11_orderAt_38 (by decide) rfl (fun h => absurd h hq) (fun _ => ?_)
  refine zs_iload_n (n := 42) dX11_orderAt_41 rfl rfl ?_
  refine zs_iload_n (n := 43) dX11_orderAt_42 rfl rfl ?_
  refine zs_icmp_lt (tgt := 56) (n := 46) dX11_orderAt_43 (by decide) rfl (fun h => absurd h hq2) (fun _ => ?_)
  exact zs_throw thr_X11_orderAt_46 rfl (by simp) (Nat.le_refl _) (Nat.le_refl _) (hQ _ hR)
theorem f_orderAt {F j : Nat} {p : Int32} (hR : zRp Z Λ S M) (h3 : sc S 3 = 1) (hF : F + 1 = 2 ^ sc S 1) (hx9 : ¬ p < 0) (hx8 : p < fWay S (sc S 1) F F 10 0) (hj : j < sc S 1) : zG Z l 4 mth_X11_orderAt [.ref (Λ 1), .int p, .int (nI j)] M 0 0 (some (.int (nI (fOrd (wW (wW S (fWay S (sc S 1) F F)) (fWay (wW S (fWay S (sc S 1) F F)) (sc S 1) F F)) (sc S 1) p (j + 1)).2.2))) (zRp Z Λ (wW (wW S (fWay S (sc S 1) F F)) (fWay (wW S (fWay S (sc S 1) F F)) (sc S 1) F F))) := by
  intro Q hQ
  have hn : sc S 1 ≤ 8 := hR.bnd.1.2.1
  show zX Z l 4 mth_X11_orderAt 0 [(0, .ref (Λ 1)), (1, .int p), (2, .int (nI j))] [] M 0 0 Q
  refine zs_aload_n (n := 1) dX11_orderAt_0 rfl rfl ?_
  refine zs_getr (b := (Λ 2)) (n := 4) dX11_orderAt_1 gf_X11_10 (hR.kd (lvC h3 (by omega))) (hR.pt (lvC h3 (by omega)) rfl (by decide)) rfl ?_
  refine zs_getr (b := (Λ 17)) (n := 7) dX11_orderAt_4 gf_X11_115 (hR.kd (lvC h3 (by omega))) (hR.pt (lvC h3 (by omega)) rfl (by decide)) rfl ?_
  refine zc_size (c := sc S 1) (n := 10) dX11_orderAt_7 ml_X11_79 (hR.lA h3) (by simp) (by omega) rfl ?_
  refine zs_istore_n (n := 11) dX11_orderAt_10 (by decide) rfl ?_
  refine zs_iload_n (n := 12) dX11_orderAt_11 rfl rfl ?_
  refine zs_if_lt (tgt := 27) (n := 15) dX11_orderAt_12 (by decide) rfl (fun h => absurd h hx9) (fun _ => ?_)
  refine zs_iload_n (n := 16) dX11_orderAt_15 rfl rfl ?_
  refine zs_aload_n (n := 17) dX11_orderAt_16 rfl rfl ?_
  refine zs_getr (b := (Λ 3)) (n := 20) dX11_orderAt_17 gf_X11_19 (hR.kd (lvC h3 (by omega))) (hR.pt (lvC h3 (by omega)) rfl (by decide)) rfl ?_
  refine zs_iload_n (n := 21) dX11_orderAt_20 rfl rfl ?_
  refine zg_V (n := 24) (As := [.int (nI (sc S 1))]) (ci := 6) (mc := 0) (ms := 0) dX11_orderAt_21 ok_X1_countOrders ⟨ml_X11_155, im_X1_countOrders, sl_X1_countOrders⟩ rfl (hR.kd (lvC h3 (by omega))) rfl (Nat.le_of_ble_eq_true rfl) (by simp) (by omega) (Nat.le_refl _) (Nat.le_refl _) rfl rfl (c_countOrders hR h3 hn hF) ?_
  intro M hR
  refine zs_icmp_lt (tgt := 37) (n := 27) dX11_orderAt_24 (by decide) rfl (fun _ => ?_) (fun h => absurd hx8 h)
  refine zs_iload_n (n := 38) dX11_orderAt_37 rfl rfl ?_
  refine zs_if_lt (tgt := 46) (n := 41) dX11_orderAt_38 (by decide) rfl (fun h => absurd h (nI_pos (by omega))) (fun _ => ?_)
  refine zs_iload_n (n := 42) dX11_orderAt_41 rfl rfl ?_
  refine zs_iload_n (n := 43) dX11_orderAt_42 rfl rfl ?_
  refine zs_icmp_lt (tgt := 56) (n := 46) dX11_orderAt_43 (by decide) rfl (fun _ => ?_) (fun h => absurd (nI_lt hj (by omega)) h)
  refine zs_aload_n (n := 57) dX11_orderAt_56 rfl rfl ?_
  refine zs_getr (b := (Λ 3)) (n := 60) dX11_orderAt_57 gf_X11_19 (hR.kd (lvC h3 (by omega))) (hR.pt (lvC h3 (by omega)) rfl (by decide)) rfl ?_
  refine zs_iload_n (n := 61) dX11_orderAt_60 rfl rfl ?_
  refine zs_iload_n (n := 62) dX11_orderAt_61 rfl rfl ?_
  refine zs_iload_n (n := 63) dX11_orderAt_62 rfl rfl ?_
  refine zg_V (n := 66) (As := [.int p, .int (nI j), .int (nI (sc S 1))]) (ci := 6) (mc := 0) (ms := 0) dX11_orderAt_63 ok_X1_actOfOrder ⟨ml_X11_165, im_X1_actOfOrder, sl_X1_actOfOrder⟩ rfl (hR.kd (lvC h3 (by omega))) rfl (Nat.le_of_ble_eq_true rfl) (by simp) (by omega) (Nat.le_refl _) (Nat.le_refl _) rfl rfl (c_actOfOrder hR h3 hn hF hj) ?_
  intro M hR
  refine zs_ireturn dX11_orderAt_66 ⟨_, rfl, rfl⟩ ?_
  exact hQ _ hR
end ZFACE3
