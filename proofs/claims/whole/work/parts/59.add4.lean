/-! THE FACE'S addPitch, turnsByLots; throws of both and of addTurn -/
section ZADD4
variable {Z : zPar} {l : Launch} {Λ : Nat → Nat} {S : zSt} {M : zMem} {q : Nat}
def fAddPitch (S : zSt) (y e sh : Int32) : zSt := (cset (sc S) 0 (sc S 0 + 1), fPV (sV S) 100 (sc S 0) 352 y e sh, fPW (sW S) 100 (sc S 0), sT S, sP S)
abbrev fTaken (S : zSt) (y : Int32) : Bool := zany (fun i => decide (sV S (100 + i) 352 = y)) (sc S 0)
theorem u1_3 {α : Type} {f : Nat → α} {a b c s : Nat} {x y z : α} (h1 : s ≠ a) (h2 : s ≠ b) (h3 : s ≠ c) : u1 (u1 (u1 f a x) b y) c z s = f s := (u1_ne h3).trans ((u1_ne h2).trans (u1_ne h1))
theorem f_addPitch_0 {y e sh : Int32} (hR : zRp Z Λ S M) (h3 : sc S 3 = 1) (hx9 : y < 0 ∨ ¬ y ≤ 99) : zTw Z l 6 mth_X11_addPitch [.ref (Λ 1), .int y, .int e, .int sh] M 1 6 0 M := by
  intro Q hQ
  have hb0 := hR.bnd.1.1
  have hb1 := hR.bnd.1.2.1
  have hb2 := hR.bnd.1.2.2.1
  show zX Z l 6 mth_X11_addPitch 0 [(0, .ref (Λ 1)), (1, .int y), (2, .int e), (3, .int sh)] [] M 1 6 Q
  refine zs_iload_n (n := 1) dX11_addPitch_0 rfl rfl ?_
  refine zs_iconst (v := 0) (n := 2) dX11_addPitch_1 (by decide) rfl ?_
  refine zs_bipush (v := 99) (n := 4) dX11_addPitch_2 (by decide) rfl ?_
  exact zt_S (As := [.int y, .int (0 : Int32), .int (99 : Int32)]) (mc := 1) (ms := 6) (nc1 := 0) (ns1 := 0) dX11_addPitch_4 ok_X11_requireRange ⟨ml_X11_60, st_X11_requireRange⟩ rfl (Nat.le_of_ble_eq_true rfl) (by simp) (by omega) (Nat.le_refl _) (Nat.le_refl _) rfl (t_requireRange hx9) (Or.inl ⟨rfl, hQ⟩)
theorem f_addPitch_1 {y e sh : Int32} (hR : zRp Z Λ S M) (h3 : sc S 3 = 1) (g1 : ¬ y < 0) (g2 : y ≤ 99) (hx9 : e < 0 ∨ ¬ e ≤ 9) : zTw Z l 6 mth_X11_addPitch [.ref (Λ 1), .int y, .int e, .int sh] M 1 6 0 M := by
  intro Q hQ
  have hb0 := hR.bnd.1.1
  have hb1 := hR.bnd.1.2.1
  have hb2 := hR.bnd.1.2.2.1
  show zX Z l 6 mth_X11_addPitch 0 [(0, .ref (Λ 1)), (1, .int y), (2, .int e), (3, .int sh)] [] M 1 6 Q
  refine zs_iload_n (n := 1) dX11_addPitch_0 rfl rfl ?_
  refine zs_iconst (v := 0) (n := 2) dX11_addPitch_1 (by decide) rfl ?_
  refine zs_bipush (v := 99) (n := 4) dX11_addPitch_2 (by decide) rfl ?_
  refine zc_S (n := 7) (As := [.int y, .int (0 : Int32), .int (99 : Int32)]) (mc := 0) (ms := 0) dX11_addPitch_4 ok_X11_requireRange ⟨ml_X11_60, st_X11_requireRange⟩ rfl (Nat.le_of_ble_eq_true rfl) (by simp) (by omega) (Nat.le_refl _) (Nat.le_refl _) rfl rfl (c_requireRange (by assumption) (by assumption)) ?_
  refine zs_iload_n (n := 8) dX11_addPitch_7 rfl rfl ?_
  refine zs_iconst (v := 0) (n := 9) dX11_addPitch_8 (by decide) rfl ?_
  refine zs_bipush (v := 9) (n := 11) dX11_addPitch_9 (by decide) rfl ?_
  exact zt_S (As := [.int e, .int (0 : Int32), .int (9 : Int32)]) (mc := 1) (ms := 6) (nc1 := 0) (ns1 := 0) dX11_addPitch_11 ok_X11_requireRange ⟨ml_X11_60, st_X11_requireRange⟩ rfl (Nat.le_of_ble_eq_true rfl) (by simp) (by omega) (Nat.le_refl _) (Nat.le_refl _) rfl (t_requireRange hx9) (Or.inl ⟨rfl, hQ⟩)
theorem f_addPitch_2 {y e sh : Int32} (hR : zRp Z Λ S M) (h3 : sc S 3 = 1) (g1 : ¬ y < 0) (g2 : y ≤ 99) (g3 : ¬ e < 0) (g4 : e ≤ 9) (hx9 : fTaken S y = true) : zTw Z l 6 mth_X11_addPitch [.ref (Λ 1), .int y, .int e, .int sh] M 1 6 4 M := by
  intro Q hQ
  have hb0 := hR.bnd.1.1
  have hb1 := hR.bnd.1.2.1
  have hb2 := hR.bnd.1.2.2.1
  show zX Z l 6 mth_X11_addPitch 0 [(0, .ref (Λ 1)), (1, .int y), (2, .int e), (3, .int sh)] [] M 1 6 Q
  refine zs_iload_n (n := 1) dX11_addPitch_0 rfl rfl ?_
  refine zs_iconst (v := 0) (n := 2) dX11_addPitch_1 (by decide) rfl ?_
  refine zs_bipush (v := 99) (n := 4) dX11_addPitch_2 (by decide) rfl ?_
  refine zc_S (n := 7) (As := [.int y, .int (0 : Int32), .int (99 : Int32)]) (mc := 0) (ms := 0) dX11_addPitch_4 ok_X11_requireRange ⟨ml_X11_60, st_X11_requireRange⟩ rfl (Nat.le_of_ble_eq_true rfl) (by simp) (by omega) (Nat.le_refl _) (Nat.le_refl _) rfl rfl (c_requireRange (by assumption) (by assumption)) ?_
  refine zs_iload_n (n := 8) dX11_addPitch_7 rfl rfl ?_
  refine zs_iconst (v := 0) (n := 9) dX11_addPitch_8 (by decide) rfl ?_
  refine zs_bipush (v := 9) (n := 11) dX11_addPitch_9 (by decide) rfl ?_
  refine zc_S (n := 14) (As := [.int e, .int (0 : Int32), .int (9 : Int32)]) (mc := 0) (ms := 0) dX11_addPitch_11 ok_X11_requireRange ⟨ml_X11_60, st_X11_requireRange⟩ rfl (Nat.le_of_ble_eq_true rfl) (by simp) (by omega) (Nat.le_refl _) (Nat.le_refl _) rfl rfl (c_requireRange (by assumption) (by assumption)) ?_
  refine zs_aload_n (n := 15) dX11_addPitch_14 rfl rfl ?_
  refine zs_getr (b := (Λ 2)) (n := 18) dX11_addPitch_15 gf_X11_10 (hR.kd (lvC h3 (by omega))) (hR.pt (lvC h3 (by omega)) rfl (by decide)) rfl ?_
  refine zs_iload_n (n := 19) dX11_addPitch_18 rfl rfl ?_
  refine zc_V (n := 22) (As := [.int y]) (ci := 12) (mc := 0) (ms := 0) dX11_addPitch_19 ok_X7_hasPitchAt ⟨ml_X11_64, im_X7_hasPitchAt, sl_X7_hasPitchAt⟩ rfl (hR.kd (lvC h3 (by omega))) rfl (Nat.le_of_ble_eq_true rfl) (by simp) (by omega) (Nat.le_refl _) (Nat.le_refl _) rfl rfl (c_hasPitchAt hR h3) ?_
  refine zs_if_eq (tgt := 35) (n := 25) dX11_addPitch_22 (by decide) rfl (fun h => absurd h (by rw [show zany (fun i => decide (sV S (100 + i) 352 = y)) (sc S 0) = true from hx9]; decide)) (fun _ => ?_)
  exact zs_throw thr_X11_addPitch_25 rfl (by simp) (Nat.le_refl _) (Nat.le_refl _) hQ
theorem f_addPitch_3 {y e sh : Int32} (hR : zRp Z Λ S M) (h3 : sc S 3 = 1) (g1 : ¬ y < 0) (g2 : y ≤ 99) (g3 : ¬ e < 0) (g4 : e ≤ 9) (hx9 : fTaken S y = false) (hn : 6 ≤ sc S 0) : zTw Z l 6 mth_X11_addPitch [.ref (Λ 1), .int y, .int e, .int sh] M 1 6 1 M := by
  intro Q hQ
  have hb0 := hR.bnd.1.1
  have hb1 := hR.bnd.1.2.1
  have hb2 := hR.bnd.1.2.2.1
  show zX Z l 6 mth_X11_addPitch 0 [(0, .ref (Λ 1)), (1, .int y), (2, .int e), (3, .int sh)] [] M 1 6 Q
  refine zs_iload_n (n := 1) dX11_addPitch_0 rfl rfl ?_
  refine zs_iconst (v := 0) (n := 2) dX11_addPitch_1 (by decide) rfl ?_
  refine zs_bipush (v := 99) (n := 4) dX11_addPitch_2 (by decide) rfl ?_
  refine zc_S (n := 7) (As := [.int y, .int (0 : Int32), .int (99 : Int32)]) (mc := 0) (ms := 0) dX11_addPitch_4 ok_X11_requireRange ⟨ml_X11_60, st_X11_requireRange⟩ rfl (Nat.le_of_ble_eq_true rfl) (by simp) (by omega) (Nat.le_refl _) (Nat.le_refl _) rfl rfl (c_requireRange (by assumption) (by assumption)) ?_
  refine zs_iload_n (n := 8) dX11_addPitch_7 rfl rfl ?_
  refine zs_iconst (v := 0) (n := 9) dX11_addPitch_8 (by decide) rfl ?_
  refine zs_bipush (v := 9) (n := 11) dX11_addPitch_9 (by decide) rfl ?_
  refine zc_S (n := 14) (As := [.int e, .int (0 : Int32), .int (9 : Int32)]) (mc := 0) (ms := 0) dX11_addPitch_11 ok_X11_requireRange ⟨ml_X11_60, st_X11_requireRange⟩ rfl (Nat.le_of_ble_eq_true rfl) (by simp) (by omega) (Nat.le_refl _) (Nat.le_refl _) rfl rfl (c_requireRange (by assumption) (by assumption)) ?_
  refine zs_aload_n (n := 15) dX11_addPitch_14 rfl rfl ?_
  refine zs_getr (b := (Λ 2)) (n := 18) dX11_addPitch_15 gf_X11_10 (hR.kd (lvC h3 (by omega))) (hR.pt (lvC h3 (by omega)) rfl (by decide)) rfl ?_
  refine zs_iload_n (n := 19) dX11_addPitch_18 rfl rfl ?_
  refine zc_V (n := 22) (As := [.int y]) (ci := 12) (mc := 0) (ms := 0) dX11_addPitch_19 ok_X7_hasPitchAt ⟨ml_X11_64, im_X7_hasPitchAt, sl_X7_hasPitchAt⟩ rfl (hR.kd (lvC h3 (by omega))) rfl (Nat.le_of_ble_eq_true rfl) (by simp) (by omega) (Nat.le_refl _) (Nat.le_refl _) rfl rfl (c_hasPitchAt hR h3) ?_
  refine zs_if_eq (tgt := 35) (n := 25) dX11_addPitch_22 (by decide) rfl (fun _ => ?_) (fun h => absurd (by rw [show zany (fun i => decide (sV S (100 + i) 352 = y)) (sc S 0) = false from hx9]; rfl) h)
  refine zs_aload_n (n := 36) dX11_addPitch_35 rfl rfl ?_
  refine zs_getr (b := (Λ 2)) (n := 39) dX11_addPitch_36 gf_X11_10 (hR.kd (lvC h3 (by omega))) (hR.pt (lvC h3 (by omega)) rfl (by decide)) rfl ?_
  refine zs_getr (b := (Λ 15)) (n := 42) dX11_addPitch_39 gf_X11_75 (hR.kd (lvC h3 (by omega))) (hR.pt (lvC h3 (by omega)) rfl (by decide)) rfl ?_
  refine zc_size (c := sc S 0) (n := 45) dX11_addPitch_42 ml_X11_79 (hR.lP h3) (by simp) (by omega) rfl ?_
  refine zs_bipush (v := 6) (n := 47) dX11_addPitch_45 (by decide) rfl ?_
  refine zs_icmp_lt (tgt := 60) (n := 50) dX11_addPitch_47 (by decide) rfl (fun h => absurd h (nI_nlt (b := 6) hn (by omega))) (fun _ => ?_)
  exact zs_throw thr_X11_addPitch_50 rfl (by simp) (Nat.le_refl _) (Nat.le_refl _) hQ
theorem f_addPitch {y e sh : Int32} (hR : zRp Z Λ S M) (h3 : sc S 3 = 1) (h0 : sc S (10 + sc S 0) = 0) (g1 : ¬ y < 0) (g2 : y ≤ 99) (g3 : ¬ e < 0) (g4 : e ≤ 9) (hs : sh = 0 ∨ sh = 1) (hx9 : fTaken S y = false) (hn : sc S 0 < 6) {Q : zO → zMem → Prop} (hQ : ∀ Λ' M', zRp Z Λ' (fAddPitch S y e sh) M' → zSame Λ Λ' → Q (.inl (some (.int (nI (sc S 0))))) M') : zX Z l 6 mth_X11_addPitch 0 (lv_args 0 [.ref (Λ 1), .int y, .int e, .int sh]) [] M 4 31 Q := by
  show zX Z l 6 mth_X11_addPitch 0 [(0, .ref (Λ 1)), (1, .int y), (2, .int e), (3, .int sh)] [] M 4 31 Q
  have hs : narrow .boolean (.int sh) = .int sh ∧ fits .boolean (.int sh) = true := by rcases hs with rfl | rfl <;> exact ⟨rfl, rfl⟩
  refine zs_iload_n (n := 1) dX11_addPitch_0 rfl rfl ?_
  refine zs_iconst (v := 0) (n := 2) dX11_addPitch_1 (by decide) rfl ?_
  refine zs_bipush (v := 99) (n := 4) dX11_addPitch_2 (by decide) rfl ?_
  refine zc_S (n := 7) (As := [.int y, .int (0 : Int32), .int (99 : Int32)]) (mc := 0) (ms := 0) dX11_addPitch_4 ok_X11_requireRange ⟨ml_X11_60, st_X11_requireRange⟩ rfl (Nat.le_of_ble_eq_true rfl) (by simp) (by omega) (Nat.le_refl _) (Nat.le_refl _) rfl rfl (c_requireRange (by assumption) (by assumption)) ?_
  refine zs_iload_n (n := 8) dX11_addPitch_7 rfl rfl ?_
  refine zs_iconst (v := 0) (n := 9) dX11_addPitch_8 (by decide) rfl ?_
  refine zs_bipush (v := 9) (n := 11) dX11_addPitch_9 (by decide) rfl ?_
  refine zc_S (n := 14) (As := [.int e, .int (0 : Int32), .int (9 : Int32)]) (mc := 0) (ms := 0) dX11_addPitch_11 ok_X11_requireRange ⟨ml_X11_60, st_X11_requireRange⟩ rfl (Nat.le_of_ble_eq_true rfl) (by simp) (by omega) (Nat.le_refl _) (Nat.le_refl _) rfl rfl (c_requireRange (by assumption) (by assumption)) ?_
  refine zs_aload_n (n := 15) dX11_addPitch_14 rfl rfl ?_
  refine zs_getr (b := (Λ 2)) (n := 18) dX11_addPitch_15 gf_X11_10 (hR.kd (lvC h3 (by omega))) (hR.pt (lvC h3 (by omega)) rfl (by decide)) rfl ?_
  refine zs_iload_n (n := 19) dX11_addPitch_18 rfl rfl ?_
  refine zc_V (n := 22) (As := [.int y]) (ci := 12) (mc := 0) (ms := 0) dX11_addPitch_19 ok_X7_hasPitchAt ⟨ml_X11_64, im_X7_hasPitchAt, sl_X7_hasPitchAt⟩ rfl (hR.kd (lvC h3 (by omega))) rfl (Nat.le_of_ble_eq_true rfl) (by simp) (by omega) (Nat.le_refl _) (Nat.le_refl _) rfl rfl (c_hasPitchAt hR h3) ?_
  refine zs_if_eq (tgt := 35) (n := 25) dX11_addPitch_22 (by decide) rfl (fun _ => ?_) (fun h => absurd (by rw [show zany (fun i => decide (sV S (100 + i) 352 = y)) (sc S 0) = false from hx9]; rfl) h)
  refine zs_aload_n (n := 36) dX11_addPitch_35 rfl rfl ?_
  refine zs_getr (b := (Λ 2)) (n := 39) dX11_addPitch_36 gf_X11_10 (hR.kd (lvC h3 (by omega))) (hR.pt (lvC h3 (by omega)) rfl (by decide)) rfl ?_
  refine zs_getr (b := (Λ 15)) (n := 42) dX11_addPitch_39 gf_X11_75 (hR.kd (lvC h3 (by omega))) (hR.pt (lvC h3 (by omega)) rfl (by decide)) rfl ?_
  refine zc_size (c := sc S 0) (n := 45) dX11_addPitch_42 ml_X11_79 (hR.lP h3) (by simp) (by omega) rfl ?_
  refine zs_bipush (v := 6) (n := 47) dX11_addPitch_45 (by decide) rfl ?_
  refine zs_icmp_lt (tgt := 60) (n := 50) dX11_addPitch_47 (by decide) rfl (fun _ => ?_) (fun h => absurd (nI_lt (b := 6) hn (by omega)) h)
  refine zs_aload_n (n := 61) dX11_addPitch_60 rfl rfl ?_
  refine zs_getr (b := (Λ 2)) (n := 64) dX11_addPitch_61 gf_X11_10 (hR.kd (lvC h3 (by omega))) (hR.pt (lvC h3 (by omega)) rfl (by decide)) rfl ?_
  refine zs_getr (b := (Λ 15)) (n := 67) dX11_addPitch_64 gf_X11_75 (hR.kd (lvC h3 (by omega))) (hR.pt (lvC h3 (by omega)) rfl (by decide)) rfl ?_
  refine zh_new (M0 := M) (N := 8) (nc1 := 3) (ns1 := 23) (n := 70) (100 + sc S 0) dX11_addPitch_67 nc_X11_90 (zPic.nil (Λ := Λ)) rfl (by decide) rfl (by omega) (by omega) ?_
  have hR0 := hR
  intro q0 M1 hP
  refine zs_dup (n := 71) dX11_addPitch_70 rfl rfl ?_
  refine zs_iload_n (n := 72) dX11_addPitch_71 rfl rfl ?_
  refine zs_iload_n (n := 73) dX11_addPitch_72 rfl rfl ?_
  refine zs_iload_n (n := 74) dX11_addPitch_73 rfl rfl ?_
  refine zg_I (n := 77) (As := [.int y, .int e, .int sh]) (mc := 2) (ms := 13) (nc1 := 1) (ns1 := 10) dX11_addPitch_74 ok_X6_init ⟨ml_X11_92, im_X6_init, rfl, rfl⟩ rfl (Nat.le_of_ble_eq_true rfl) (by simp) (by omega) (by omega) (by omega) rfl rfl (h_X6_init (r0 := 100 + sc S 0) (r1 := 110 + sc S 0) (r2 := 120 + sc S 0) u1_at hP qNa kNa (qNn (by omega) rfl) (qNn (by omega) rfl) (by omega) (by omega) (by omega) hs) ?_
  rintro M2 ⟨q1, q2, hP⟩
  have hb := hR0.bnd
  have b1 := hb.1.2.1
  have b2 := hb.1.2.2.1
  have b3 := hb.2.1.1
  have hG := zRp_pit hR0 hn hP
  have hb' : zBnd (cset (sc S) (zci 15) (zct (sc S) 15 + 1)) := hb.up (r := 15) (by unfold zlr; omega) (by show sc S 0 + 1 ≤ 6; omega)
  have hno : ∀ s, zlv (sc S) s → s ≠ 100 + sc S 0 ∧ s ≠ 110 + sc S 0 ∧ s ≠ 120 + sc S 0 := fun s hs => ⟨fun e9 => zlvP_no (n := sc S 0) (s := 100 + sc S 0) hb (by omega) (by rw [← e9]; exact hs), fun e9 => zlvP_no (n := sc S 0) (s := 110 + sc S 0) hb (by omega) (by rw [← e9]; exact hs), fun e9 => zlvP_no (n := sc S 0) (s := 120 + sc S 0) hb (by omega) (by rw [← e9]; exact hs)⟩
  have e1 : zL4 Z Λ 100 (sc S 0) q0 q1 q2 (100 + sc S 0) = q0 := (u1_ne (by omega)).trans ((u1_ne (by omega)).trans ((u1_ne (by omega)).trans u1_at))
  have hk0 : mK M2 q0 = 21 := by
    have := hG.emp
    have hp := hP.k (r := 100 + sc S 0) (qRn (qRn (qIn (qNn (by omega) (qRn (qNn (by omega) (qIn (qIn (qIn qNa)))))))))
    rw [show u1 (u1 (u1 Λ (100 + sc S 0) q0) (110 + sc S 0) q1) (120 + sc S 0) q2 (100 + sc S 0) = q0 from (u1_ne (by omega)).trans ((u1_ne (by omega)).trans u1_at)] at hp
    exact hp.trans (kRn (kRn (kIn (kNn (by omega) (kRn (kNn (by omega) (kIn (kIn (kIn kNa)))))))))
  have eL : ∀ s, (s < 100 ∨ (160 ≤ s ∧ s < 1100) ∨ 1200 ≤ s) → zL4 Z Λ 100 (sc S 0) q0 q1 q2 s = Λ s := fun s hs => (u1_ne (by omega)).trans (u1_3 (by omega) (by omega) (by omega))
  refine zw_add (r := 15) (V' := fPV (sV S) 100 (sc S 0) 352 y e sh) (W' := fPW (sW S) 100 (sc S 0)) (T' := sT S) (P' := sP S) (nc1 := 0) (ns1 := 0) (n := 80) (eL 15 (by omega)) dX11_addPitch_77 ml_X11_95 hG (lvC h3 (by omega)) rfl (by show sc S 0 < 10; omega) hb' e1.symm (Or.inl ⟨11, _, hk0, rfl, co_X6⟩) (fun s hs hns => ?_) (fun s hs k _ _ => ?_) (fun s hs j => ?_) (fun _ _ _ _ => rfl) (fun _ _ => rfl) (fun _ => rfl) (hG.ints.same (show cset (sc S) 0 (sc S 0 + 1) 1003 = sc S 1003 from cset_ne (by decide)) (show cset (sc S) 0 (sc S 0 + 1) 6 = sc S 6 from cset_ne (by decide)) (fun s hs => congrFun (u1_3 (f := sV S) (by omega) (by omega) (by omega)) 32)) (by simp) (by omega) (by omega) (by omega) rfl ?_
  · exact zOne_pit hG hn (by show cset (sc S) 0 (sc S 0 + 1) (10 + sc S 0) = 0; rw [cset_ne (by omega)]; exact h0) hb' hP (zlvP_new hb hs h0 hns)
  · obtain ⟨h7, h8, h9⟩ := hno s hs
    exact congrFun (u1_3 (f := sV S) h7 h8 h9) k
  · obtain ⟨h7, h8, h9⟩ := hno s hs
    exact congrFun (u1_3 (f := sW S) h7 h8 h9) j
  intro Λ M hR hΛ
  have e2 : Λ 1 = _ := (hΛ 1 (by decide)).trans (eL 1 (by omega))
  have hS := (show zSame _ Λ from ⟨e2, (hΛ 1001 (by decide)).trans (eL 1001 (by omega)), (hΛ 40 (by decide)).trans (eL 40 (by omega)), (hΛ 41 (by decide)).trans (eL 41 (by omega))⟩)
  rw [← e2]
  have hR : zRp Z Λ (fAddPitch S y e sh) M := hR
  have hcn : sc (fAddPitch S y e sh) 0 = sc S 0 + 1 := (cset_at : cset (sc S) 0 (sc S 0 + 1) 0 = _)
  refine zs_pop (n := 81) dX11_addPitch_80 rfl rfl ?_
  refine zs_aload_n (n := 82) dX11_addPitch_81 rfl rfl ?_
  refine zs_getr (b := (Λ 2)) (n := 85) dX11_addPitch_82 gf_X11_10 (hR.kd (lvC h3 (by omega))) (hR.pt (lvC h3 (by omega)) rfl (by decide)) rfl ?_
  refine zs_getr (b := (Λ 15)) (n := 88) dX11_addPitch_85 gf_X11_75 (hR.kd (lvC h3 (by omega))) (hR.pt (lvC h3 (by omega)) rfl (by decide)) rfl ?_
  refine zc_size (c := sc (fAddPitch S y e sh) 0) (n := 91) dX11_addPitch_88 ml_X11_79 (hR.lP h3) (by simp) (by omega) rfl ?_
  rw [hcn]
  refine zs_iconst (v := 1) (n := 92) dX11_addPitch_91 (by decide) rfl ?_
  refine zs_isub (n := 93) dX11_addPitch_92 rfl ?_
  rw [show nI (sc S 0 + 1) - 1 = nI (sc S 0) from nI_pred _]
  refine zs_ireturn dX11_addPitch_93 ⟨_, rfl, rfl⟩ ?_
  exact hQ _ _ hR hS
theorem f_addTurn_0 {p q : Int32} (hR : zRp Z Λ S M) (h3 : sc S 3 = 1) (hx9 : ¬ (¬ p < 0 ∧ ¬ nI (sc S 0) ≤ p)) : zTw Z l 6 mth_X11_addTurn [.ref (Λ 1), .int p, .int q] M 1 6 2 M := by
  intro Q hQ
  have hb0 := hR.bnd.1.1
  have hb1 := hR.bnd.1.2.1
  have hb2 := hR.bnd.1.2.2.1
  show zX Z l 6 mth_X11_addTurn 0 [(0, .ref (Λ 1)), (1, .int p), (2, .int q)] [] M 1 6 Q
  refine zs_aload_n (n := 1) dX11_addTurn_0 rfl rfl ?_
  refine zs_iload_n (n := 2) dX11_addTurn_1 rfl rfl ?_
  exact zt_V (As := [.int p]) (ci := 16) (mc := 1) (ms := 6) (nc1 := 0) (ns1 := 0) dX11_addTurn_2 ok_X11_requirePitch ⟨ml_X11_99, im_X11_requirePitch, sl_X11_requirePitch⟩ rfl (hR.kd (lvC h3 (by omega))) rfl (Nat.le_of_ble_eq_true rfl) (by simp) (by omega) (Nat.le_refl _) (Nat.le_refl _) rfl (t_requirePitch hR h3 hx9) (Or.inl ⟨rfl, hQ⟩)
theorem f_addTurn_1 {i : Nat} {q : Int32} (hR : zRp Z Λ S M) (h3 : sc S 3 = 1) (hi : i < sc S 0) (hx9 : ¬ (¬ q < 0 ∧ ¬ nI (sc S 1) ≤ q)) : zTw Z l 6 mth_X11_addTurn [.ref (Λ 1), .int (nI i), .int q] M 1 6 2 M := by
  intro Q hQ
  have hb0 := hR.bnd.1.1
  have hb1 := hR.bnd.1.2.1
  have hb2 := hR.bnd.1.2.2.1
  show zX Z l 6 mth_X11_addTurn 0 [(0, .ref (Λ 1)), (1, .int (nI i)), (2, .int q)] [] M 1 6 Q
  refine zs_aload_n (n := 1) dX11_addTurn_0 rfl rfl ?_
  refine zs_iload_n (n := 2) dX11_addTurn_1 rfl rfl ?_
  refine zc_V (n := 5) (As := [.int (nI i)]) (ci := 16) (mc := 0) (ms := 0) dX11_addTurn_2 ok_X11_requirePitch ⟨ml_X11_99, im_X11_requirePitch, sl_X11_requirePitch⟩ rfl (hR.kd (lvC h3 (by omega))) rfl (Nat.le_of_ble_eq_true rfl) (by simp) (by omega) (Nat.le_refl _) (Nat.le_refl _) rfl rfl (c_requirePitch hR h3 hi) ?_
  refine zs_aload_n (n := 6) dX11_addTurn_5 rfl rfl ?_
  refine zs_iload_n (n := 7) dX11_addTurn_6 rfl rfl ?_
  exact zt_V (As := [.int q]) (ci := 16) (mc := 1) (ms := 6) (nc1 := 0) (ns1 := 0) dX11_addTurn_7 ok_X11_requireAct ⟨ml_X11_125, im_X11_requireAct, sl_X11_requireAct⟩ rfl (hR.kd (lvC h3 (by omega))) rfl (Nat.le_of_ble_eq_true rfl) (by simp) (by omega) (Nat.le_refl _) (Nat.le_refl _) rfl (t_requireAct hR h3 hx9) (Or.inl ⟨rfl, hQ⟩)
theorem f_addTurn_2 {i a : Nat} (hR : zRp Z Λ S M) (h3 : sc S 3 = 1) (hi : i < sc S 0) (ha : a < sc S 1) (hp : ¬ sV S 7 228 = 0) : zTw Z l 6 mth_X11_addTurn [.ref (Λ 1), .int (nI i), .int (nI a)] M 1 6 1 M := by
  intro Q hQ
  have hb0 := hR.bnd.1.1
  have hb1 := hR.bnd.1.2.1
  have hb2 := hR.bnd.1.2.2.1
  show zX Z l 6 mth_X11_addTurn 0 [(0, .ref (Λ 1)), (1, .int (nI i)), (2, .int (nI a))] [] M 1 6 Q
  refine zs_aload_n (n := 1) dX11_addTurn_0 rfl rfl ?_
  refine zs_iload_n (n := 2) dX11_addTurn_1 rfl rfl ?_
  refine zc_V (n := 5) (As := [.int (nI i)]) (ci := 16) (mc := 0) (ms := 0) dX11_addTurn_2 ok_X11_requirePitch ⟨ml_X11_99, im_X11_requirePitch, sl_X11_requirePitch⟩ rfl (hR.kd (lvC h3 (by omega))) rfl (Nat.le_of_ble_eq_true rfl) (by simp) (by omega) (Nat.le_refl _) (Nat.le_refl _) rfl rfl (c_requirePitch hR h3 hi) ?_
  refine zs_aload_n (n := 6) dX11_addTurn_5 rfl rfl ?_
  refine zs_iload_n (n := 7) dX11_addTurn_6 rfl rfl ?_
  refine zc_V (n := 10) (As := [.int (nI a)]) (ci := 16) (mc := 0) (ms := 0) dX11_addTurn_7 ok_X11_requireAct ⟨ml_X11_125, im_X11_requireAct, sl_X11_requireAct⟩ rfl (hR.kd (lvC h3 (by omega))) rfl (Nat.le_of_ble_eq_true rfl) (by simp) (by omega) (Nat.le_refl _) (Nat.le_refl _) rfl rfl (c_requireAct hR h3 ha) ?_
  refine zs_aload_n (n := 11) dX11_addTurn_10 rfl rfl ?_
  exact zt_V (As := []) (ci := 16) (mc := 1) (ms := 6) (nc1 := 0) (ns1 := 0) dX11_addTurn_11 ok_X11_requireNotPlayed ⟨ml_X11_187, im_X11_requireNotPlayed, sl_X11_requireNotPlayed⟩ rfl (hR.kd (lvC h3 (by omega))) rfl (Nat.le_of_ble_eq_true rfl) (by simp) (by omega) (Nat.le_refl _) (Nat.le_refl _) rfl (t_requireNotPlayed hR h3 hp) (Or.inl ⟨rfl, hQ⟩)
theorem f_addTurn_3 {i a : Nat} (hR : zRp Z Λ S M) (h3 : sc S 3 = 1) (hi : i < sc S 0) (ha : a < sc S 1) (hp : sV S 7 228 = 0) (hel : ¬ zb (fElse S (nI a) i) = 0) : zTw Z l 6 mth_X11_addTurn [.ref (Λ 1), .int (nI i), .int (nI a)] M 1 6 4 M := by
  intro Q hQ
  have hb0 := hR.bnd.1.1
  have hb1 := hR.bnd.1.2.1
  have hb2 := hR.bnd.1.2.2.1
  have h6 : sc S 0 ≤ 6 := hR.bnd.1.1
  show zX Z l 6 mth_X11_addTurn 0 [(0, .ref (Λ 1)), (1, .int (nI i)), (2, .int (nI a))] [] M 1 6 Q
  refine zs_aload_n (n := 1) dX11_addTurn_0 rfl rfl ?_
  refine zs_iload_n (n := 2) dX11_addTurn_1 rfl rfl ?_
  refine zc_V (n := 5) (As := [.int (nI i)]) (ci := 16) (mc := 0) (ms := 0) dX11_addTurn_2 ok_X11_requirePitch ⟨ml_X11_99, im_X11_requirePitch, sl_X11_requirePitch⟩ rfl (hR.kd (lvC h3 (by omega))) rfl (Nat.le_of_ble_eq_true rfl) (by simp) (by omega) (Nat.le_refl _) (Nat.le_refl _) rfl rfl (c_requirePitch hR h3 hi) ?_
  refine zs_aload_n (n := 6) dX11_addTurn_5 rfl rfl ?_
  refine zs_iload_n (n := 7) dX11_addTurn_6 rfl rfl ?_
  refine zc_V (n := 10) (As := [.int (nI a)]) (ci := 16) (mc := 0) (ms := 0) dX11_addTurn_7 ok_X11_requireAct ⟨ml_X11_125, im_X11_requireAct, sl_X11_requireAct⟩ rfl (hR.kd (lvC h3 (by omega))) rfl (Nat.le_of_ble_eq_true rfl) (by simp) (by omega) (Nat.le_refl _) (Nat.le_refl _) rfl rfl (c_requireAct hR h3 ha) ?_
  refine zs_aload_n (n := 11) dX11_addTurn_10 rfl rfl ?_
  refine zc_V (n := 14) (As := []) (ci := 16) (mc := 0) (ms := 0) dX11_addTurn_11 ok_X11_requireNotPlayed ⟨ml_X11_187, im_X11_requireNotPlayed, sl_X11_requireNotPlayed⟩ rfl (hR.kd (lvC h3 (by omega))) rfl (Nat.le_of_ble_eq_true rfl) (by simp) (by omega) (Nat.le_refl _) (Nat.le_refl _) rfl rfl (c_requireNotPlayed hR h3 hp) ?_
  refine zs_aload_n (n := 15) dX11_addTurn_14 rfl rfl ?_
  refine zs_getr (b := (Λ 2)) (n := 18) dX11_addTurn_15 gf_X11_10 (hR.kd (lvC h3 (by omega))) (hR.pt (lvC h3 (by omega)) rfl (by decide)) rfl ?_
  refine zs_getr (b := (Λ 15)) (n := 21) dX11_addTurn_18 gf_X11_75 (hR.kd (lvC h3 (by omega))) (hR.pt (lvC h3 (by omega)) rfl (by decide)) rfl ?_
  refine zs_iload_n (n := 22) dX11_addTurn_21 rfl rfl ?_
  refine zc_getb (c := sc S 0) (b := (Λ (100 + i))) (n := 25) dX11_addTurn_22 ml_X11_103 (hR.lP h3) hi rfl (by simp) (by omega) rfl ?_
  refine zs_castS (ci := 11) (n := 28) dX11_addTurn_25 rfl cl_X11_90 (hR.kP hi) rfl ?_
  refine zs_getr (b := (Λ (120 + i))) (n := 31) dX11_addTurn_28 gf_X11_190 (hR.kP hi) (hR.pT hi) rfl ?_
  refine zs_astore_n (n := 32) dX11_addTurn_31 (by decide) rfl ?_
  refine zs_aload_n (n := 33) dX11_addTurn_32 rfl rfl ?_
  refine zs_getr (b := (Λ 2)) (n := 36) dX11_addTurn_33 gf_X11_10 (hR.kd (lvC h3 (by omega))) (hR.pt (lvC h3 (by omega)) rfl (by decide)) rfl ?_
  refine zs_iload_n (n := 37) dX11_addTurn_36 rfl rfl ?_
  refine zs_iload_n (n := 38) dX11_addTurn_37 rfl rfl ?_
  refine zc_V (n := 41) (As := [.int (nI a), .int (nI i)]) (ci := 12) (mc := 0) (ms := 0) dX11_addTurn_38 ok_X7_hasTurnElsewhere ⟨ml_X11_193, im_X7_hasTurnElsewhere, sl_X7_hasTurnElsewhere⟩ rfl (hR.kd (lvC h3 (by omega))) rfl (Nat.le_of_ble_eq_true rfl) (by simp) (by omega) (Nat.le_refl _) (Nat.le_refl _) rfl rfl (c_hasTurnElsewhere hR h3 (by omega)) ?_
  refine zs_if_ne (tgt := 53) (n := 44) dX11_addTurn_41 (by decide) rfl (fun _ => ?_) (fun h => absurd h hel)
  exact zs_throw thr_X11_addTurn_53 rfl (by simp) (Nat.le_refl _) (Nat.le_refl _) hQ
theorem f_addTurn_4 {i a : Nat} (hR : zRp Z Λ S M) (h3 : sc S 3 = 1) (hi : i < sc S 0) (ha : a < sc S 1) (hp : sV S 7 228 = 0) (hel : zb (fElse S (nI a) i) = 0) (hn : 8 ≤ sc S (10 + i)) : zTw Z l 6 mth_X11_addTurn [.ref (Λ 1), .int (nI i), .int (nI a)] M 1 6 4 M := by
  intro Q hQ
  have hb0 := hR.bnd.1.1
  have hb1 := hR.bnd.1.2.1
  have hb2 := hR.bnd.1.2.2.1
  have h6 : sc S 0 ≤ 6 := hR.bnd.1.1
  have h8 := hR.bnd.1.2.2.2 i
  show zX Z l 6 mth_X11_addTurn 0 [(0, .ref (Λ 1)), (1, .int (nI i)), (2, .int (nI a))] [] M 1 6 Q
  refine zs_aload_n (n := 1) dX11_addTurn_0 rfl rfl ?_
  refine zs_iload_n (n := 2) dX11_addTurn_1 rfl rfl ?_
  refine zc_V (n := 5) (As := [.int (nI i)]) (ci := 16) (mc := 0) (ms := 0) dX11_addTurn_2 ok_X11_requirePitch ⟨ml_X11_99, im_X11_requirePitch, sl_X11_requirePitch⟩ rfl (hR.kd (lvC h3 (by omega))) rfl (Nat.le_of_ble_eq_true rfl) (by simp) (by omega) (Nat.le_refl _) (Nat.le_refl _) rfl rfl (c_requirePitch hR h3 hi) ?_
  refine zs_aload_n (n := 6) dX11_addTurn_5 rfl rfl ?_
  refine zs_iload_n (n := 7) dX11_addTurn_6 rfl rfl ?_
  refine zc_V (n := 10) (As := [.int (nI a)]) (ci := 16) (mc := 0) (ms := 0) dX11_addTurn_7 ok_X11_requireAct ⟨ml_X11_125, im_X11_requireAct, sl_X11_requireAct⟩ rfl (hR.kd (lvC h3 (by omega))) rfl (Nat.le_of_ble_eq_true rfl) (by simp) (by omega) (Nat.le_refl _) (Nat.le_refl _) rfl rfl (c_requireAct hR h3 ha) ?_
  refine zs_aload_n (n := 11) dX11_addTurn_10 rfl rfl ?_
  refine zc_V (n := 14) (As := []) (ci := 16) (mc := 0) (ms := 0) dX11_addTurn_11 ok_X11_requireNotPlayed ⟨ml_X11_187, im_X11_requireNotPlayed, sl_X11_requireNotPlayed⟩ rfl (hR.kd (lvC h3 (by omega))) rfl (Nat.le_of_ble_eq_true rfl) (by simp) (by omega) (Nat.le_refl _) (Nat.le_refl _) rfl rfl (c_requireNotPlayed hR h3 hp) ?_
  refine zs_aload_n (n := 15) dX11_addTurn_14 rfl rfl ?_
  refine zs_getr (b := (Λ 2)) (n := 18) dX11_addTurn_15 gf_X11_10 (hR.kd (lvC h3 (by omega))) (hR.pt (lvC h3 (by omega)) rfl (by decide)) rfl ?_
  refine zs_getr (b := (Λ 15)) (n := 21) dX11_addTurn_18 gf_X11_75 (hR.kd (lvC h3 (by omega))) (hR.pt (lvC h3 (by omega)) rfl (by decide)) rfl ?_
  refine zs_iload_n (n := 22) dX11_addTurn_21 rfl rfl ?_
  refine zc_getb (c := sc S 0) (b := (Λ (100 + i))) (n := 25) dX11_addTurn_22 ml_X11_103 (hR.lP h3) hi rfl (by simp) (by omega) rfl ?_
  refine zs_castS (ci := 11) (n := 28) dX11_addTurn_25 rfl cl_X11_90 (hR.kP hi) rfl ?_
  refine zs_getr (b := (Λ (120 + i))) (n := 31) dX11_addTurn_28 gf_X11_190 (hR.kP hi) (hR.pT hi) rfl ?_
  refine zs_astore_n (n := 32) dX11_addTurn_31 (by decide) rfl ?_
  refine zs_aload_n (n := 33) dX11_addTurn_32 rfl rfl ?_
  refine zs_getr (b := (Λ 2)) (n := 36) dX11_addTurn_33 gf_X11_10 (hR.kd (lvC h3 (by omega))) (hR.pt (lvC h3 (by omega)) rfl (by decide)) rfl ?_
  refine zs_iload_n (n := 37) dX11_addTurn_36 rfl rfl ?_
  refine zs_iload_n (n := 38) dX11_addTurn_37 rfl rfl ?_
  refine zc_V (n := 41) (As := [.int (nI a), .int (nI i)]) (ci := 12) (mc := 0) (ms := 0) dX11_addTurn_38 ok_X7_hasTurnElsewhere ⟨ml_X11_193, im_X7_hasTurnElsewhere, sl_X7_hasTurnElsewhere⟩ rfl (hR.kd (lvC h3 (by omega))) rfl (Nat.le_of_ble_eq_true rfl) (by simp) (by omega) (Nat.le_refl _) (Nat.le_refl _) rfl rfl (c_hasTurnElsewhere hR h3 (by omega)) ?_
  refine zs_if_ne (tgt := 53) (n := 44) dX11_addTurn_41 (by decide) rfl (fun h => absurd hel h) (fun _ => ?_)
  refine zs_aload_n (n := 45) dX11_addTurn_44 rfl rfl ?_
  refine zc_size (c := sc S (10 + i)) (n := 48) dX11_addTurn_45 ml_X11_79 (hR.lT hi) (by simp) (by omega) rfl ?_
  refine zs_bipush (v := 8) (n := 50) dX11_addTurn_48 (by decide) rfl ?_
  refine zs_icmp_lt (tgt := 63) (n := 53) dX11_addTurn_50 (by decide) rfl (fun h => absurd h (nI_nlt (b := 8) hn (by omega))) (fun _ => ?_)
  exact zs_throw thr_X11_addTurn_53 rfl (by simp) (Nat.le_refl _) (Nat.le_refl _) hQ
theorem f_turnsByLots_0  (hR : zRp Z Λ S M) (h3 : sc S 3 = 1) (hp : ¬ sV S 7 228 = 0) : zTw Z l 7 mth_X11_turnsByLots [.ref (Λ 1)] M 1 6 1 M := by
  intro Q hQ
  have hb0 := hR.bnd.1.1
  have hb1 := hR.bnd.1.2.1
  have hb2 := hR.bnd.1.2.2.1
  show zX Z l 7 mth_X11_turnsByLots 0 [(0, .ref (Λ 1))] [] M 1 6 Q
  refine zs_aload_n (n := 1) dX11_turnsByLots_0 rfl rfl ?_
  exact zt_V (As := []) (ci := 16) (mc := 1) (ms := 6) (nc1 := 0) (ns1 := 0) dX11_turnsByLots_1 ok_X11_requireNotPlayed ⟨ml_X11_187, im_X11_requireNotPlayed, sl_X11_requireNotPlayed⟩ rfl (hR.kd (lvC h3 (by omega))) rfl (Nat.le_of_ble_eq_true rfl) (by simp) (by omega) (Nat.le_refl _) (Nat.le_refl _) rfl (t_requireNotPlayed hR h3 hp) (Or.inl ⟨rfl, hQ⟩)
theorem f_turnsByLots_1  (hR : zRp Z Λ S M) (h3 : sc S 3 = 1) (hp : sV S 7 228 = 0) (h1 : sV S 4 324 = 0) : zTw Z l 7 mth_X11_turnsByLots [.ref (Λ 1)] M 1 6 4 M := by
  intro Q hQ
  have hb0 := hR.bnd.1.1
  have hb1 := hR.bnd.1.2.1
  have hb2 := hR.bnd.1.2.2.1
  show zX Z l 7 mth_X11_turnsByLots 0 [(0, .ref (Λ 1))] [] M 1 6 Q
  refine zs_aload_n (n := 1) dX11_turnsByLots_0 rfl rfl ?_
  refine zc_V (n := 4) (As := []) (ci := 16) (mc := 0) (ms := 0) dX11_turnsByLots_1 ok_X11_requireNotPlayed ⟨ml_X11_187, im_X11_requireNotPlayed, sl_X11_requireNotPlayed⟩ rfl (hR.kd (lvC h3 (by omega))) rfl (Nat.le_of_ble_eq_true rfl) (by simp) (by omega) (Nat.le_refl _) (Nat.le_refl _) rfl rfl (c_requireNotPlayed hR h3 hp) ?_
  refine zs_aload_n (n := 5) dX11_turnsByLots_4 rfl rfl ?_
  refine zs_getr (b := (Λ 2)) (n := 8) dX11_turnsByLots_5 gf_X11_10 (hR.kd (lvC h3 (by omega))) (hR.pt (lvC h3 (by omega)) rfl (by decide)) rfl ?_
  refine zs_getr (b := (Λ 15)) (n := 11) dX11_turnsByLots_8 gf_X11_75 (hR.kd (lvC h3 (by omega))) (hR.pt (lvC h3 (by omega)) rfl (by decide)) rfl ?_
  refine zc_size (c := sc S 0) (n := 14) dX11_turnsByLots_11 ml_X11_79 (hR.lP h3) (by simp) (by omega) rfl ?_
  refine zs_istore_n (n := 15) dX11_turnsByLots_14 (by decide) rfl ?_
  refine zs_aload_n (n := 16) dX11_turnsByLots_15 rfl rfl ?_
  refine zs_getr (b := (Λ 4)) (n := 19) dX11_turnsByLots_16 gf_X11_26 (hR.kd (lvC h3 (by omega))) (hR.pt (lvC h3 (by omega)) rfl (by decide)) rfl ?_
  refine zs_getv (x := (sV S 4 324)) (n := 22) dX11_turnsByLots_19 gf_X11_175 (hR.kd (lvC h3 (by omega))) (hR.iv (lvC h3 (by omega)) (by decide) (by decide)) rfl ?_
  refine zs_if_eq (tgt := 29) (n := 25) dX11_turnsByLots_22 (by decide) rfl (fun _ => ?_) (fun h => absurd h1 h)
  exact zs_throw thr_X11_turnsByLots_29 rfl (by simp) (Nat.le_refl _) (Nat.le_refl _) hQ
theorem f_turnsByLots_2  (hR : zRp Z Λ S M) (h3 : sc S 3 = 1) (hp : sV S 7 228 = 0) (h1 : ¬ sV S 4 324 = 0) (h0 : sc S 0 = 0) : zTw Z l 7 mth_X11_turnsByLots [.ref (Λ 1)] M 1 6 4 M := by
  intro Q hQ
  have hb0 := hR.bnd.1.1
  have hb1 := hR.bnd.1.2.1
  have hb2 := hR.bnd.1.2.2.1
  show zX Z l 7 mth_X11_turnsByLots 0 [(0, .ref (Λ 1))] [] M 1 6 Q
  refine zs_aload_n (n := 1) dX11_turnsByLots_0 rfl rfl ?_
  refine zc_V (n := 4) (As := []) (ci := 16) (mc := 0) (ms := 0) dX11_turnsByLots_1 ok_X11_requireNotPlayed ⟨ml_X11_187, im_X11_requireNotPlayed, sl_X11_requireNotPlayed⟩ rfl (hR.kd (lvC h3 (by omega))) rfl (Nat.le_of_ble_eq_true rfl) (by simp) (by omega) (Nat.le_refl _) (Nat.le_refl _) rfl rfl (c_requireNotPlayed hR h3 hp) ?_
  refine zs_aload_n (n := 5) dX11_turnsByLots_4 rfl rfl ?_
  refine zs_getr (b := (Λ 2)) (n := 8) dX11_turnsByLots_5 gf_X11_10 (hR.kd (lvC h3 (by omega))) (hR.pt (lvC h3 (by omega)) rfl (by decide)) rfl ?_
  refine zs_getr (b := (Λ 15)) (n := 11) dX11_turnsByLots_8 gf_X11_75 (hR.kd (lvC h3 (by omega))) (hR.pt (lvC h3 (by omega)) rfl (by decide)) rfl ?_
  refine zc_size (c := sc S 0) (n := 14) dX11_turnsByLots_11 ml_X11_79 (hR.lP h3) (by simp) (by omega) rfl ?_
  refine zs_istore_n (n := 15) dX11_turnsByLots_14 (by decide) rfl ?_
  refine zs_aload_n (n := 16) dX11_turnsByLots_15 rfl rfl ?_
  refine zs_getr (b := (Λ 4)) (n := 19) dX11_turnsByLots_16 gf_X11_26 (hR.kd (lvC h3 (by omega))) (hR.pt (lvC h3 (by omega)) rfl (by decide)) rfl ?_
  refine zs_getv (x := (sV S 4 324)) (n := 22) dX11_turnsByLots_19 gf_X11_175 (hR.kd (lvC h3 (by omega))) (hR.iv (lvC h3 (by omega)) (by decide) (by decide)) rfl ?_
  refine zs_if_eq (tgt := 29) (n := 25) dX11_turnsByLots_22 (by decide) rfl (fun h => absurd h h1) (fun _ => ?_)
  refine zs_iload_n (n := 26) dX11_turnsByLots_25 rfl rfl ?_
  refine zs_if_gt (tgt := 39) (n := 29) dX11_turnsByLots_26 (by decide) rfl (fun h => absurd h (by rw [h0]; decide)) (fun _ => ?_)
  exact zs_throw thr_X11_turnsByLots_29 rfl (by simp) (Nat.le_refl _) (Nat.le_refl _) hQ
/-- a turn just made is added -/
theorem zw_turn {i a d : Nat} {mm : zMeth} {pc n nc ns ix nc1 ns1 : Nat} {L : List (Nat × Value)} {st : List Value} {Q : zO → zMem → Prop} (hd : decode (zMC mm) pc = .ok (.invokevirtual ix, 3)) (hw : zwd (.methodLink (zMY mm).cls ix yJx4a65c_add_9ea2d)) (hR0 : zRp Z Λ S M) (hi : i < sc S 0) (ha : a < sc S 1) (hn : sc S (10 + i) < 8) (hq : mK M q = 0) (hst : st.length ≤ 4) (hdd : 4 < d) (hc1 : nc1 + 1 ≤ nc) (hs1 : ns1 + 10 ≤ ns) (hpn : pc + 3 = n)
    (kk : ∀ Λ' M', zRp Z Λ' (fAddTurn S i a) M' → zSame Λ Λ' → Λ' (120 + i) = Λ (120 + i) → zX Z l d mm n L (.int 1 :: st) M' nc1 ns1 Q) : zX Z l d mm pc L (.ref q :: .ref (Λ (120 + i)) :: st) (mTurN M q (160 + 8 * i + sc S (10 + i)) (Λ (140 + a))) nc ns Q := by
  have hb := hR0.bnd
  have h6 : sc S 0 ≤ 6 := hb.1.1
  have h7 : sc S 1 ≤ 8 := hb.1.2.1
  have hno : ¬ zlv (sc S) (160 + 8 * i + sc S (10 + i)) := zlv_no hb (Or.inr (Or.inl ⟨i, _, rfl, by omega, hn, Nat.le_refl _⟩))
  have hG2 := hR0.grow1 (q := q) (s0 := (160 + 8 * i + sc S (10 + i))) (zus_ne hb hno (by omega)) (by omega) (fun r hr => zrw_hi (by omega) hr) (mTurN_ag (g := (160 + 8 * i + sc S (10 + i))) (p := Λ (140 + a)) hq)
  have hci : zci (120 + i) = 10 + i := zci_T (by omega)
  have hct : zct (sc S) (120 + i) = sc S (10 + i) := zct_T (by omega)
  have hb' : zBnd (cset (sc S) (zci (120 + i)) (zct (sc S) (120 + i) + 1)) := hb.up (by unfold zlr; omega) (by rw [if_neg (by omega), if_neg (by omega), hct]; omega)
  have ebs : zbs (120 + i) + zct (sc S) (120 + i) = (160 + 8 * i + sc S (10 + i)) := by rw [hct, zbs_T (by omega)]
  refine zw_add (r := 120 + i) (V' := u1 (sV S) (160 + 8 * i + sc S (10 + i)) (fun _ => 0)) (W' := u1 (sW S) (160 + 8 * i + sc S (10 + i)) (fun _ => 0)) (T' := u2 (sT S) i (sc S (10 + i)) a) (P' := sP S) (nc1 := nc1) (ns1 := ns1) (n := n) (u1_ne (by omega)) hd hw hG2 (lvT hi) (zki_T (by omega)) (by omega) hb' (by rw [ebs]; exact (u1_at (f := Λ)).symm) (Or.inl ⟨13, _, u1_at, rfl, co_X8⟩) (fun s hs hns => ?_) (fun s hs k _ _ => congrFun (u1_ne (f := sV S) (fun e => hno (by rw [← e]; exact hs))) k) (fun s hs j => congrFun (u1_ne (f := sW S) (fun e => hno (by rw [← e]; exact hs))) j) (fun i2 k2 hi2 hk2 => by unfold u2; rw [if_neg (fun e => by have := e.2; subst this; omega)]) (fun _ _ => rfl) (fun _ => rfl) (hG2.ints.same (show cset (sc S) (zci (120 + i)) _ 1003 = sc S 1003 from cset_ne (by omega)) (show cset (sc S) (zci (120 + i)) _ 6 = sc S 6 from cset_ne (by omega)) (fun s hs => congrFun (u1_ne (f := sV S) (by omega)) 32)) hst hdd hc1 hs1 hpn ?_
  · rw [hci, hct] at hs
    have e : s = (160 + 8 * i + sc S (10 + i)) := zlvK_new hb hs (by omega) hns
    subst e
    have ek : zki (160 + 8 * i + sc S (10 + i)) = 23 := by rw [Nat.add_assoc]; exact zki_K (by omega)
    refine zOne_plain u1_at ((u1_at).trans ek.symm) u1_at (zle_hi (by omega)) (by omega) (by rw [ek]; decide) (by omega) (fun k _ _ => ?_) (fun j => ?_) (fun i2 k hi2 hk2 h => ?_) (fun j hj h => ?_)
    · exact (congrFun (u1_at : u1 (vI M) q (fun _ => 0) q = fun _ => 0) k).trans (congrFun (u1_at (f := sV S) (v := fun _ => 0)) k).symm
    · exact (congrFun (u1_at : u1 (aI M) q (fun _ => 0) q = fun _ => 0) j).trans (congrFun (u1_at (f := sW S) (v := fun _ => 0)) j).symm
    · rw [hci, hct] at hi2 hk2
      rw [cset_ne (by omega)] at hi2
      have b8 := hb'.1.2.2.2 i2
      rw [hci, hct] at b8
      have e : i2 = i := by omega
      subst e
      have e : k = sc S (10 + i2) := by omega
      subst e
      rw [hci, hct, cset_ne (by omega)]
      refine ⟨by rw [u2_at]; exact ha, ?_⟩
      rw [u2_at, show u1 Λ (160 + 8 * i2 + sc S (10 + i2)) q (140 + a) = Λ (140 + a) from u1_ne (by omega)]
      exact u2_at
    · have := hb'.1.2.2.1
      omega
  · intro Λ' M' hR hΛ
    rw [zrw_T (by omega)] at hΛ
    rw [hci, hct] at hR
    exact kk Λ' M' hR ⟨(hΛ 1 (by omega)).trans (u1_ne (by omega)), (hΛ 1001 (by omega)).trans (u1_ne (by omega)), (hΛ 40 (by omega)).trans (u1_ne (by omega)), (hΛ 41 (by omega)).trans (u1_ne (by omega))⟩ ((hΛ (120 + i) (by omega)).trans (u1_ne (by omega)))
/-- turns by lots, place by place -/
def fTB (S : zSt) (P : Nat) (A : Nat → Nat) (j : Nat) : zSt := zit (fun j T => fAddTurn T (j % P) (A j)) j (wC S (fClr (sc S 0) (sc S)))
theorem fTB_c {P : Nat} {A : Nat → Nat} {k : Nat} (hP : P ≤ 100) (h0 : 0 < P) (hc : sc S 0 ≤ 100) (hk : k < 10 ∨ 1000 ≤ k) : ∀ j, sc (fTB S P A j) k = sc S k
  | 0 => fClr_lo hk _ hc
  | j + 1 => by
    have := Nat.mod_lt j h0
    exact (cset_ne (by omega)).trans (fTB_c hP h0 hc hk j)
theorem fTB_V {P : Nat} {A : Nat → Nat} {s : Nat} (hs : s < 160) : ∀ j, sV (fTB S P A j) s = sV S s
  | 0 => rfl
  | j + 1 => (u1_ne (by omega)).trans (fTB_V hs j)
theorem fTB_W {P : Nat} {A : Nat → Nat} {s : Nat} (hs : s < 160) : ∀ j, sW (fTB S P A j) s = sW S s
  | 0 => rfl
  | j + 1 => (u1_ne (by omega)).trans (fTB_W hs j)
theorem fClr_0 {c : Nat → Nat} {i : Nat} : ∀ n, i < n → fClr n c (10 + i) = 0
  | n + 1, h => by
    show cset (fClr n c) (10 + n) 0 (10 + i) = 0
    by_cases e : i = n
    · subst e
      exact cset_at
    · exact (cset_ne (by omega)).trans (fClr_0 n (by omega))
theorem fTB_n {P : Nat} {A : Nat → Nat} {i : Nat} (hi : i < sc S 0) : ∀ j, sc (fTB S P A j) (10 + i) ≤ j
  | 0 => Nat.le_of_eq (fClr_0 _ hi)
  | j + 1 => by
    have := fTB_n (P := P) (A := A) hi j
    show cset (sc (fTB S P A j)) (10 + j % P) (sc (fTB S P A j) (10 + j % P) + 1) (10 + i) ≤ j + 1
    unfold cset
    split
    · next e => rw [← e]; omega
    · omega
theorem f_turnsByLots {n P : Nat} {A : Nat → Nat} (hR : zRp Z Λ S M) (h3 : sc S 3 = 1) (hp : sV S 7 228 = 0) (h1 : ¬ sV S 4 324 = 0) (hPc : sc S 0 = P) (hP0 : 0 < P) (hs : sV S 4 323 = nI n) (hn : n ≤ 8) (hA : ∀ j, j < n → sW S 11 j = nI (A j) ∧ A j < sc S 1) {Q : zO → zMem → Prop} (hQ : ∀ Λ' M', zRp Z Λ' (fTB S P A n) M' → zSame Λ Λ' → Q (.inl (some (.int (nI n)))) M') : zX Z l 7 mth_X11_turnsByLots 0 (lv_args 0 [.ref (Λ 1)]) [] M 16 152 Q := by
  show zX Z l 7 mth_X11_turnsByLots 0 [(0, .ref (Λ 1))] [] M 16 152 Q
  have hP6 : P ≤ 6 := by rw [← hPc]; exact hR.bnd.1.1
  have hb1 : sc S 1 ≤ 8 := hR.bnd.1.2.1
  refine zs_aload_n (n := 1) dX11_turnsByLots_0 rfl rfl ?_
  refine zc_V (n := 4) (As := []) (ci := 16) (mc := 0) (ms := 0) dX11_turnsByLots_1 ok_X11_requireNotPlayed ⟨ml_X11_187, im_X11_requireNotPlayed, sl_X11_requireNotPlayed⟩ rfl (hR.kd (lvC h3 (by omega))) rfl (Nat.le_of_ble_eq_true rfl) (by simp) (by omega) (Nat.le_refl _) (Nat.le_refl _) rfl rfl (c_requireNotPlayed hR h3 hp) ?_
  refine zs_aload_n (n := 5) dX11_turnsByLots_4 rfl rfl ?_
  refine zs_getr (b := (Λ 2)) (n := 8) dX11_turnsByLots_5 gf_X11_10 (hR.kd (lvC h3 (by omega))) (hR.pt (lvC h3 (by omega)) rfl (by decide)) rfl ?_
  refine zs_getr (b := (Λ 15)) (n := 11) dX11_turnsByLots_8 gf_X11_75 (hR.kd (lvC h3 (by omega))) (hR.pt (lvC h3 (by omega)) rfl (by decide)) rfl ?_
  refine zc_size (c := sc S 0) (n := 14) dX11_turnsByLots_11 ml_X11_79 (hR.lP h3) (by simp) (by omega) rfl ?_
  rw [hPc]
  refine zs_istore_n (n := 15) dX11_turnsByLots_14 (by decide) rfl ?_
  refine zs_aload_n (n := 16) dX11_turnsByLots_15 rfl rfl ?_
  refine zs_getr (b := (Λ 4)) (n := 19) dX11_turnsByLots_16 gf_X11_26 (hR.kd (lvC h3 (by omega))) (hR.pt (lvC h3 (by omega)) rfl (by decide)) rfl ?_
  refine zs_getv (x := (sV S 4 324)) (n := 22) dX11_turnsByLots_19 gf_X11_175 (hR.kd (lvC h3 (by omega))) (hR.iv (lvC h3 (by omega)) (by decide) (by decide)) rfl ?_
  refine zs_if_eq (tgt := 29) (n := 25) dX11_turnsByLots_22 (by decide) rfl (fun h => absurd h h1) (fun _ => ?_)
  refine zs_iload_n (n := 26) dX11_turnsByLots_25 rfl rfl ?_
  refine zs_if_gt (tgt := 39) (n := 29) dX11_turnsByLots_26 (by decide) rfl (fun _ => ?_) (fun h => absurd (nI_lt (a := 0) (by omega) (by omega)) h)
  refine zs_aload_n (n := 40) dX11_turnsByLots_39 rfl rfl ?_
  refine zs_getr (b := (Λ 2)) (n := 43) dX11_turnsByLots_40 gf_X11_10 (hR.kd (lvC h3 (by omega))) (hR.pt (lvC h3 (by omega)) rfl (by decide)) rfl ?_
  refine zg_V (n := 46) (As := []) (ci := 12) (mc := 0) (ms := 0) dX11_turnsByLots_43 ok_X7_clearTurns ⟨ml_X11_205, im_X7_clearTurns, sl_X7_clearTurns⟩ rfl (hR.kd (lvC h3 (by omega))) rfl (Nat.le_of_ble_eq_true rfl) (by simp) (by omega) (Nat.le_refl _) (Nat.le_refl _) rfl rfl (c_clearTurns hR h3) ?_
  intro M hR
  refine zs_iconst (v := 0) (n := 47) dX11_turnsByLots_46 (by decide) rfl ?_
  refine zs_istore_n (n := 48) dX11_turnsByLots_47 (by decide) rfl ?_
  refine zX.sub (L' := [(0, .ref (Λ 1)), (1, .int (nI P)), (2, .int (nI 0))]) ⟨rfl, rfl, rfl, trivial⟩ ?_
  refine zX.more (nc' := 2 * (n - 0)) (ns' := 19 * (n - 0)) ?_ (by omega) (by omega)
  refine zloop (n := n) (X := fun j => ∀ Λ2 M, zRp Z Λ2 (fTB S P A j) M → zSame Λ Λ2 → zX Z l 7 mth_X11_turnsByLots 48 [(0, .ref (Λ2 1)), (1, .int (nI P)), (2, .int (nI j))] [] M (2 * (n - j)) (19 * (n - j)) Q) (fun j hj ih => ?_) ?_ 0 (Nat.zero_le _) Λ M hR ⟨rfl, rfl, rfl, rfl⟩
  · intro Λ2 M hR hS
    have h3b : sc (fTB S P A j) 3 = 1 := (fTB_c (by omega) hP0 (by omega) (by omega) j).trans h3
    have h3a := h3
    have h3 := h3b
    have hc0 : sc (fTB S P A j) 0 = P := (fTB_c (by omega) hP0 (by omega) (by omega) j).trans hPc
    have hc1 : sc (fTB S P A j) 1 = sc S 1 := fTB_c (by omega) hP0 (by omega) (by omega) j
    have hsz : sV (fTB S P A j) 4 323 = nI n := (congrFun (fTB_V (by omega) j) 323).trans hs
    refine zs_iload_n (n := 49) dX11_turnsByLots_48 rfl rfl ?_
    refine zs_aload_n (n := 50) dX11_turnsByLots_49 rfl rfl ?_
    refine zs_getr (b := (Λ2 4)) (n := 53) dX11_turnsByLots_50 gf_X11_26 (hR.kd (lvC h3 (by omega))) (hR.pt (lvC h3 (by omega)) rfl (by decide)) rfl ?_
    refine zs_getv (x := (sV (fTB S P A j) 4 323)) (n := 56) dX11_turnsByLots_53 gf_X11_173 (hR.kd (lvC h3 (by omega))) (hR.iv (lvC h3 (by omega)) (by decide) (by decide)) rfl ?_
    rw [hsz]
    refine zs_icmp_ge (tgt := 119) (n := 59) dX11_turnsByLots_56 (by decide) rfl (fun h => absurd h (nI_ge hj (by omega))) (fun _ => ?_)
    refine zs_aload_n (n := 60) dX11_turnsByLots_59 rfl rfl ?_
    refine zs_getr (b := (Λ2 2)) (n := 63) dX11_turnsByLots_60 gf_X11_10 (hR.kd (lvC h3 (by omega))) (hR.pt (lvC h3 (by omega)) rfl (by decide)) rfl ?_
    refine zs_getr (b := (Λ2 17)) (n := 66) dX11_turnsByLots_63 gf_X11_115 (hR.kd (lvC h3 (by omega))) (hR.pt (lvC h3 (by omega)) rfl (by decide)) rfl ?_
    refine zs_aload_n (n := 67) dX11_turnsByLots_66 rfl rfl ?_
    refine zs_getr (b := (Λ2 4)) (n := 70) dX11_turnsByLots_67 gf_X11_26 (hR.kd (lvC h3 (by omega))) (hR.pt (lvC h3 (by omega)) rfl (by decide)) rfl ?_
    refine zs_getr (b := (Λ2 11)) (n := 73) dX11_turnsByLots_70 gf_X11_180 (hR.kd (lvC h3 (by omega))) (hR.pt (lvC h3 (by omega)) rfl (by decide)) rfl ?_
    refine zs_iload_n (n := 74) dX11_turnsByLots_73 rfl rfl ?_
    refine zs_ialdv (x := (sW (fTB S P A j) 11 j)) (n := 75) dX11_turnsByLots_74 (hR.kd (lvC h3 (by omega))) (by rw [show mN M (Λ2 11) = 8 from (hR.ln (lvC h3 (by omega)) rfl (by decide))]; exact vp_in_nI (by first | exact hj | omega) (by omega)) (by rw [nI_clamp (by omega)]; exact hR.av (lvC h3 (by omega))) rfl ?_
    rw [show sW (fTB S P A j) 11 j = nI (A j) from (congrFun (fTB_W (by omega) j) j).trans (hA j hj).1]
    have haj : A j < sc (fTB S P A j) 1 := by rw [hc1]; exact (hA j hj).2
    refine zc_getb (c := sc (fTB S P A j) 1) (b := (Λ2 (140 + (A j)))) (n := 78) dX11_turnsByLots_75 ml_X11_103 (hR.lA h3) haj rfl (by simp) (by omega) rfl ?_
    refine zs_castS (ci := 5) (n := 81) dX11_turnsByLots_78 rfl cl_X11_120 (hR.kA haj) rfl ?_
    refine zs_astore_n (n := 82) dX11_turnsByLots_81 (by decide) rfl ?_
    refine zs_aload_n (n := 83) dX11_turnsByLots_82 rfl rfl ?_
    refine zs_getr (b := (Λ2 2)) (n := 86) dX11_turnsByLots_83 gf_X11_10 (hR.kd (lvC h3 (by omega))) (hR.pt (lvC h3 (by omega)) rfl (by decide)) rfl ?_
    refine zs_getr (b := (Λ2 15)) (n := 89) dX11_turnsByLots_86 gf_X11_75 (hR.kd (lvC h3 (by omega))) (hR.pt (lvC h3 (by omega)) rfl (by decide)) rfl ?_
    refine zs_iload_n (n := 90) dX11_turnsByLots_89 rfl rfl ?_
    refine zs_iload_n (n := 91) dX11_turnsByLots_90 rfl rfl ?_
    refine zs_irem (n := 92) dX11_turnsByLots_91 (nI_ne0 hP0 (by omega)) rfl ?_
    rw [pk_rem (by omega) hP0 (by omega)]
    have hij : j % P < sc (fTB S P A j) 0 := by rw [hc0]; exact Nat.mod_lt j hP0
    refine zc_getb (c := sc (fTB S P A j) 0) (b := (Λ2 (100 + (j % P)))) (n := 95) dX11_turnsByLots_92 ml_X11_103 (hR.lP h3) hij rfl (by simp) (by omega) rfl ?_
    refine zs_castS (ci := 11) (n := 98) dX11_turnsByLots_95 rfl cl_X11_90 (hR.kP hij) rfl ?_
    refine zs_getr (b := (Λ2 (120 + (j % P)))) (n := 101) dX11_turnsByLots_98 gf_X11_190 (hR.kP hij) (hR.pT hij) rfl ?_
    refine zs_new (kind := 23) (N := 9) (nc1 := 2 * (n - (j + 1)) + 1) (ns1 := 19 * (n - (j + 1)) + 10) (n := 104) (160 + 8 * (j % P) + sc (fTB S P A j) (10 + j % P)) dX11_turnsByLots_101 nc_X11_198 rfl (by omega) (by omega) (fun q hq => ?_)
    refine zs_dup (n := 105) dX11_turnsByLots_104 rfl rfl ?_
    refine zs_aload_n (n := 106) dX11_turnsByLots_105 rfl rfl ?_
    refine zc_I (n := 109) (As := [.ref (Λ2 (140 + A j))]) (mc := 0) (ms := 0) dX11_turnsByLots_106 ok_X8_init ⟨ml_X11_200, im_X8_init, rfl, rfl⟩ rfl (Nat.le_of_ble_eq_true rfl) (by simp) (by omega) (Nat.le_refl _) (Nat.le_refl _) rfl rfl (m_Turn_init u1_at) ?_
    refine zw_turn (S := (fTB S P A j)) (nc1 := 2 * (n - (j + 1))) (ns1 := 19 * (n - (j + 1))) (n := 112) dX11_turnsByLots_109 ml_X11_95 hR hij haj (Nat.lt_of_le_of_lt (fTB_n (P := P) (A := A) (by rw [hPc]; exact Nat.mod_lt j hP0) j) (by omega)) hq (by simp) (by omega) (by omega) (by omega) rfl (fun Λ3 M hR hS3 _ => ?_)
    refine zs_pop (n := 113) dX11_turnsByLots_112 rfl rfl ?_
    refine zs_iinc (v := nI (j + 1)) (n := 116) dX11_turnsByLots_113 rfl (nI_1 _) (by decide) rfl ?_
    refine zs_goto (tgt := 48) dX11_turnsByLots_116 (by decide) ?_
    rw [← hS3.1]
    refine zX.sub (L' := [(0, .ref (Λ3 1)), (1, .int (nI P)), (2, .int (nI (j + 1)))]) ⟨rfl, rfl, rfl, trivial⟩ ?_
    exact ih Λ3 M hR ⟨hS3.1.trans hS.1, hS3.2.1.trans hS.2.1, hS3.2.2.1.trans hS.2.2.1, hS3.2.2.2.trans hS.2.2.2⟩
  · intro Λ2 M hR hS
    have h3b : sc (fTB S P A n) 3 = 1 := (fTB_c (by omega) hP0 (by omega) (by omega) n).trans h3
    have h3a := h3
    have h3 := h3b
    have hc0 : sc (fTB S P A n) 0 = P := (fTB_c (by omega) hP0 (by omega) (by omega) n).trans hPc
    have hc1 : sc (fTB S P A n) 1 = sc S 1 := fTB_c (by omega) hP0 (by omega) (by omega) n
    have hsz : sV (fTB S P A n) 4 323 = nI n := (congrFun (fTB_V (by omega) n) 323).trans hs
    refine zs_iload_n (n := 49) dX11_turnsByLots_48 rfl rfl ?_
    refine zs_aload_n (n := 50) dX11_turnsByLots_49 rfl rfl ?_
    refine zs_getr (b := (Λ2 4)) (n := 53) dX11_turnsByLots_50 gf_X11_26 (hR.kd (lvC h3 (by omega))) (hR.pt (lvC h3 (by omega)) rfl (by decide)) rfl ?_
    refine zs_getv (x := (sV (fTB S P A n) 4 323)) (n := 56) dX11_turnsByLots_53 gf_X11_173 (hR.kd (lvC h3 (by omega))) (hR.iv (lvC h3 (by omega)) (by decide) (by decide)) rfl ?_
    rw [hsz]
    refine zs_icmp_ge (tgt := 119) (n := 59) dX11_turnsByLots_56 (by decide) rfl (fun _ => ?_) (fun h => absurd (nI_le (Nat.le_refl _) (by omega)) h)
    refine zs_aload_n (n := 120) dX11_turnsByLots_119 rfl rfl ?_
    refine zs_getr (b := (Λ2 4)) (n := 123) dX11_turnsByLots_120 gf_X11_26 (hR.kd (lvC h3 (by omega))) (hR.pt (lvC h3 (by omega)) rfl (by decide)) rfl ?_
    refine zs_getv (x := (sV (fTB S P A n) 4 323)) (n := 126) dX11_turnsByLots_123 gf_X11_173 (hR.kd (lvC h3 (by omega))) (hR.iv (lvC h3 (by omega)) (by decide) (by decide)) rfl ?_
    rw [hsz]
    refine zs_ireturn dX11_turnsByLots_126 ⟨_, rfl, rfl⟩ ?_
    exact hQ _ _ hR hS
end ZADD4
