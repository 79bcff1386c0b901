/-! THE FACE'S addVisit, addTurn -/
section ZADD3
variable {Z : zPar} {l : Launch} {Λ : Nat → Nat} {S : zSt} {M : zMem} {q : Nat}
def fAddVisit (S : zSt) (i : Nat) (x : Int32) : zSt := (cset (sc S) 2 (sc S 2 + 1), u1 (sV S) (150 + sc S 2) (fun k => if k = 450 then 45 else if k = 449 then x else 0), u1 (sW S) (150 + sc S 2) (fun _ => 0), sT S, u1 (sP S) (sc S 2) i)
abbrev mVisN (M : zMem) (q g p : Nat) (x : Int32) : zMem := sI (sI (sR (zNew M q 24 0 g) q 448 (some p)) q 449 x) q 450 45
theorem mVisN_ag {g p : Nat} {x : Int32} (hq : mK M q = 0) : ∀ a, mK M a ≠ 0 → zAg M (mVisN M q g p x) a := by
  intro a ha
  have hqa : a ≠ q := fun e => ha (e ▸ hq)
  exact ⟨u1_ne hqa, u1_ne hqa, u1_ne hqa, (u2_ne hqa).trans ((u2_ne hqa).trans (u1_ne hqa)), (u2_ne hqa).trans (u1_ne hqa), u1_ne hqa, u1_ne hqa, u1_ne hqa, u1_ne hqa⟩
def fAddTurn (S : zSt) (i a : Nat) : zSt := (cset (sc S) (10 + i) (sc S (10 + i) + 1), u1 (sV S) (160 + 8 * i + sc S (10 + i)) (fun _ => 0), u1 (sW S) (160 + 8 * i + sc S (10 + i)) (fun _ => 0), u2 (sT S) i (sc S (10 + i)) a, sP S)
abbrev mTurN (M : zMem) (q g p : Nat) : zMem := sR (zNew M q 23 0 g) q 416 (some p)
theorem mTurN_ag {g p : Nat} (hq : mK M q = 0) : ∀ a, mK M a ≠ 0 → zAg M (mTurN M q g p) a := by
  intro a ha
  have hqa : a ≠ q := fun e => ha (e ▸ hq)
  exact ⟨u1_ne hqa, u1_ne hqa, u1_ne hqa, u1_ne hqa, (u2_ne hqa).trans (u1_ne hqa), u1_ne hqa, u1_ne hqa, u1_ne hqa, u1_ne hqa⟩
theorem zrw_hi {r s0 : Nat} (h : (140 ≤ s0 ∧ s0 < 1000) ∨ 1140 ≤ s0) (hr : zlr r) : zrw r ≠ s0 := by
  have := zrw_out hr
  omega
theorem zNew_ag {kind len g : Nat} (hq : mK M q = 0) : ∀ a, mK M a ≠ 0 → zAg M (zNew M q kind len g) a := by
  intro a ha
  have hqa : a ≠ q := fun e => ha (e ▸ hq)
  exact ⟨u1_ne hqa, u1_ne hqa, u1_ne hqa, u1_ne hqa, u1_ne hqa, u1_ne hqa, u1_ne hqa, u1_ne hqa, u1_ne hqa⟩
theorem f_addVisit {i : Nat} {x : Int32} (hR : zRp Z Λ S M) (h3 : sc S 3 = 1) (hi : i < sc S 0) (g1 : ¬ x < 600) (g2 : x ≤ 1199) (hp : sV S 7 228 = 0) (hn : sc S 2 < 6) {Q : zO → zMem → Prop} (hQ : ∀ Λ' M', zRp Z Λ' (fAddVisit S i x) M' → zSame Λ Λ' → Q (.inl (some (.int (nI (sc S 2 + 1))))) M') : zX Z l 6 mth_X11_addVisit 0 (lv_args 0 [.ref (Λ 1), .int (nI i), .int x]) [] M 2 14 Q := by
  show zX Z l 6 mth_X11_addVisit 0 [(0, .ref (Λ 1)), (1, .int (nI i)), (2, .int x)] [] M 2 14 Q
  refine zs_aload_n (n := 1) dX11_addVisit_0 rfl rfl ?_
  refine zs_iload_n (n := 2) dX11_addVisit_1 rfl rfl ?_
  refine zc_V (n := 5) (As := [.int (nI i)]) (ci := 16) (mc := 0) (ms := 0) dX11_addVisit_2 ok_X11_requirePitch ⟨ml_X11_99, im_X11_requirePitch, sl_X11_requirePitch⟩ rfl (hR.kd (lvC h3 (by omega))) rfl (Nat.le_of_ble_eq_true rfl) (by simp) (by omega) (Nat.le_refl _) (Nat.le_refl _) rfl rfl (c_requirePitch hR h3 hi) ?_
  refine zs_iload_n (n := 6) dX11_addVisit_5 rfl rfl ?_
  refine zs_sipush (v := 600) (n := 9) dX11_addVisit_6 (by decide) rfl ?_
  refine zs_sipush (v := 1199) (n := 12) dX11_addVisit_9 (by decide) rfl ?_
  refine zc_S (n := 15) (As := [.int x, .int (600 : Int32), .int (1199 : Int32)]) (mc := 0) (ms := 0) dX11_addVisit_12 ok_X11_requireRange ⟨ml_X11_60, st_X11_requireRange⟩ rfl (Nat.le_of_ble_eq_true rfl) (by simp) (by omega) (Nat.le_refl _) (Nat.le_refl _) rfl rfl (c_requireRange (by assumption) (by assumption)) ?_
  refine zs_aload_n (n := 16) dX11_addVisit_15 rfl rfl ?_
  refine zc_V (n := 19) (As := []) (ci := 16) (mc := 0) (ms := 0) dX11_addVisit_16 ok_X11_requireNotPlayed ⟨ml_X11_187, im_X11_requireNotPlayed, sl_X11_requireNotPlayed⟩ rfl (hR.kd (lvC h3 (by omega))) rfl (Nat.le_of_ble_eq_true rfl) (by simp) (by omega) (Nat.le_refl _) (Nat.le_refl _) rfl rfl (c_requireNotPlayed hR h3 hp) ?_
  refine zs_aload_n (n := 20) dX11_addVisit_19 rfl rfl ?_
  refine zs_getr (b := (Λ 7)) (n := 23) dX11_addVisit_20 gf_X11_49 (hR.kd (lvC h3 (by omega))) (hR.pt (lvC h3 (by omega)) rfl (by decide)) rfl ?_
  refine zs_getr (b := (Λ 19)) (n := 26) dX11_addVisit_23 gf_X11_251 (hR.kd (lvC h3 (by omega))) (hR.pt (lvC h3 (by omega)) rfl (by decide)) rfl ?_
  refine zc_size (c := sc S 2) (n := 29) dX11_addVisit_26 ml_X11_79 (hR.lV h3) (by simp) (by omega) rfl ?_
  refine zs_bipush (v := 6) (n := 31) dX11_addVisit_29 (by decide) rfl ?_
  refine zs_icmp_lt (tgt := 44) (n := 34) dX11_addVisit_31 (by decide) rfl (fun _ => ?_) (fun h => absurd (nI_lt (b := 6) hn (by omega)) h)
  refine zs_aload_n (n := 45) dX11_addVisit_44 rfl rfl ?_
  refine zs_getr (b := (Λ 7)) (n := 48) dX11_addVisit_45 gf_X11_49 (hR.kd (lvC h3 (by omega))) (hR.pt (lvC h3 (by omega)) rfl (by decide)) rfl ?_
  refine zs_getr (b := (Λ 19)) (n := 51) dX11_addVisit_48 gf_X11_251 (hR.kd (lvC h3 (by omega))) (hR.pt (lvC h3 (by omega)) rfl (by decide)) rfl ?_
  refine zs_new (kind := 24) (N := 4) (nc1 := 1) (ns1 := 10) (n := 54) (150 + sc S 2) dX11_addVisit_51 nc_X11_256 rfl (by omega) (by omega) (fun q hq => ?_)
  have hG : zRp Z Λ S (zNew M q 24 0 (150 + sc S 2)) := hR.grow (fun _ _ => rfl) ⟨rfl, rfl⟩ (fun _ _ _ => rfl) (zNew_ag hq)
  have hR0 := hR
  have hR := hG
  refine zs_dup (n := 55) dX11_addVisit_54 rfl rfl ?_
  refine zs_aload_n (n := 56) dX11_addVisit_55 rfl rfl ?_
  refine zs_getr (b := (Λ 2)) (n := 59) dX11_addVisit_56 gf_X11_10 (hR.kd (lvC h3 (by omega))) (hR.pt (lvC h3 (by omega)) rfl (by decide)) rfl ?_
  refine zs_getr (b := (Λ 15)) (n := 62) dX11_addVisit_59 gf_X11_75 (hR.kd (lvC h3 (by omega))) (hR.pt (lvC h3 (by omega)) rfl (by decide)) rfl ?_
  refine zs_iload_n (n := 63) dX11_addVisit_62 rfl rfl ?_
  refine zc_getb (c := sc S 0) (b := (Λ (100 + i))) (n := 66) dX11_addVisit_63 ml_X11_103 (hR.lP h3) hi rfl (by simp) (by omega) rfl ?_
  refine zs_castS (ci := 11) (n := 69) dX11_addVisit_66 rfl cl_X11_90 (hR.kP hi) rfl ?_
  refine zs_iload_n (n := 70) dX11_addVisit_69 rfl rfl ?_
  refine zc_I (n := 73) (As := [.ref (Λ (100 + i)), .int x]) (mc := 0) (ms := 0) dX11_addVisit_70 ok_X9_init ⟨ml_X11_258, im_X9_init, rfl, rfl⟩ rfl (Nat.le_of_ble_eq_true rfl) (by simp) (by omega) (Nat.le_refl _) (Nat.le_refl _) rfl rfl (m_Visit_init u1_at) ?_
  have hb := hR0.bnd
  have hno : ¬ zlv (sc S) (150 + sc S 2) := zlv_no hb (Or.inl ⟨_, rfl, Nat.le_refl _, hn⟩)
  have hG2 := hR0.grow1 (q := q) (s0 := 150 + sc S 2) (zus_ne hb hno (by omega)) (by omega) (fun r hr => zrw_hi (by omega) hr) (mVisN_ag (g := 150 + sc S 2) (p := Λ (100 + i)) (x := x) hq)
  have hb' : zBnd (cset (sc S) (zci 19) (zct (sc S) 19 + 1)) := hb.up (r := 19) (by unfold zlr; omega) (by show sc S 2 + 1 ≤ 6; omega)
  refine zw_add (r := 19) (V' := u1 (sV S) (150 + sc S 2) (fun k => if k = 450 then 45 else if k = 449 then x else 0)) (W' := u1 (sW S) (150 + sc S 2) (fun _ => 0)) (T' := sT S) (P' := u1 (sP S) (sc S 2) i) (nc1 := 0) (ns1 := 0) (n := 76) (u1_ne (by omega)) dX11_addVisit_73 ml_X11_95 hG2 (lvC h3 (by omega)) rfl (by show sc S 2 < 10; omega) hb' (u1_at (f := Λ)).symm (Or.inl ⟨14, _, u1_at, rfl, co_X9⟩) (fun s hs hns => ?_) (fun s hs k _ _ => congrFun (u1_ne (f := sV S) (fun e => hno (by rw [← e]; exact hs))) k) (fun s hs j => congrFun (u1_ne (f := sW S) (fun e => hno (by rw [← e]; exact hs))) j) (fun _ _ _ _ => rfl) (fun j hj => u1_ne (by omega)) (fun _ => u1_ne (by omega)) (hG2.ints.same (show cset (sc S) 2 (sc S 2 + 1) 1003 = sc S 1003 from cset_ne (by decide)) (show cset (sc S) 2 (sc S 2 + 1) 6 = sc S 6 from cset_ne (by decide)) (fun s hs => congrFun (u1_ne (f := sV S) (by omega)) 32)) (by simp) (by omega) (by omega) (by omega) rfl ?_
  · have e : s = 150 + sc S 2 := zlvV_new hs hns
    subst e
    refine zOne_plain u1_at ((u1_at).trans (zki_V hn).symm) u1_at (zle_hi (by omega)) (by omega) (by rw [zki_V hn]; decide) (by omega) (fun k _ _ => ?_) (fun j => ?_) (fun i2 k hi2 hk2 h => ?_) (fun j hj h => ?_)
    · rw [show u1 (sV S) (150 + sc S 2) (fun k => if k = 450 then 45 else if k = 449 then x else 0) (150 + sc S 2) = _ from u1_at]
      show u2 (u2 (vI (zNew M q 24 0 (150 + sc S 2))) q 449 x) q 450 45 q k = _
      have e0 : vI (zNew M q 24 0 (150 + sc S 2)) q = fun _ => 0 := u1_at
      unfold u2
      simp only [and_true, e0]
    · exact (congrFun (u1_at : u1 (aI M) q (fun _ => 0) q = fun _ => 0) j).trans (congrFun (u1_at (f := sW S) (v := fun _ => 0)) j).symm
    · omega
    · have e : j = sc S 2 := by omega
      subst e
      rw [show u1 (sP S) (sc S 2) i (sc S 2) = i from u1_at]
      exact ⟨hi, by rw [show u1 Λ (150 + sc S 2) q (100 + i) = Λ (100 + i) from u1_ne (by have := hb.1.1; omega)]; exact u2_at⟩
  clear hR hG hG2
  intro Λ M hR hΛ
  have e1 : Λ 1 = _ := (hΛ 1 (by decide)).trans (u1_ne (by omega))
  have hS := (show zSame _ Λ from ⟨e1, (hΛ 1001 (by decide)).trans (u1_ne (by omega)), (hΛ 40 (by decide)).trans (u1_ne (by omega)), (hΛ 41 (by decide)).trans (u1_ne (by omega))⟩)
  rw [← e1]
  refine zs_pop (n := 77) dX11_addVisit_76 rfl rfl ?_
  refine zs_aload_n (n := 78) dX11_addVisit_77 rfl rfl ?_
  refine zs_getr (b := (Λ 7)) (n := 81) dX11_addVisit_78 gf_X11_49 (hR.kd (lvC h3 (by omega))) (hR.pt (lvC h3 (by omega)) rfl (by decide)) rfl ?_
  refine zs_getr (b := (Λ 19)) (n := 84) dX11_addVisit_81 gf_X11_251 (hR.kd (lvC h3 (by omega))) (hR.pt (lvC h3 (by omega)) rfl (by decide)) rfl ?_
  refine zc_size (c := sc (fAddVisit S i x) 2) (n := 87) dX11_addVisit_84 ml_X11_79 (hR.lV h3) (by simp) (by omega) rfl ?_
  refine zs_ireturn dX11_addVisit_87 ⟨_, rfl, rfl⟩ ?_
  exact hQ _ _ hR hS
theorem f_addTurn {i a : Nat} (hR : zRp Z Λ S M) (h3 : sc S 3 = 1) (hi : i < sc S 0) (ha : a < sc S 1) (hp : sV S 7 228 = 0) (hel : zb (fElse S (nI a) i) = 0) (hn : sc S (10 + i) < 8) {Q : zO → zMem → Prop} (hQ : ∀ Λ' M', zRp Z Λ' (fAddTurn S i a) M' → zSame Λ Λ' → Q (.inl (some (.int (nI (sc S (10 + i) + 1))))) M') : zX Z l 6 mth_X11_addTurn 0 (lv_args 0 [.ref (Λ 1), .int (nI i), .int (nI a)]) [] M 2 19 Q := by
  show zX Z l 6 mth_X11_addTurn 0 [(0, .ref (Λ 1)), (1, .int (nI i)), (2, .int (nI a))] [] M 2 19 Q
  have hb := hR.bnd
  have h6 : sc S 0 ≤ 6 := hb.1.1
  have h7 : sc S 1 ≤ 8 := hb.1.2.1
  refine zs_aload_n (n := 1) dX11_addTurn_0 rfl rfl ?_
  refine zs_iload_n (n := 2) dX11_addTurn_1 rfl rfl ?_
  refine zc_V (n := 5) (As := [.int (nI i)]) (ci := 16) (mc := 0) (ms := 0) dX11_addTurn_2 ok_X11_requirePitch ⟨ml_X11_99, im_X11_requirePitch, sl_X11_requirePitch⟩ rfl (hR.kd (lvC h3 (by omega))) rfl (Nat.le_of_ble_eq_true rfl) (by simp) (by omega) (Nat.le_refl _) (Nat.le_refl _) rfl rfl (c_requirePitch hR h3 hi) ?_
  refine zs_aload_n (n := 6) dX11_addTurn_5 rfl rfl ?_
  refine zs_iload_n (n := 7) dX11_addTurn_6 rfl rfl ?_
  refine zc_V (n := 10) (As := [.int (nI a)]) (ci := 16) (mc := 0) (ms := 0) dX11_addTurn_7 ok_X11_requireAct ⟨ml_X11_125, im_X11_requireAct, sl_X11_requireAct⟩ rfl (hR.kd (lvC h3 (by omega))) rfl (Nat.le_of_ble_eq_true rfl) (by simp) (by omega) (Nat.le_refl _) (Nat.le_refl _) rfl rfl (c_requireAct hR h3 ha) ?_
  refine zs_aload_n (n := 11) dX11_addTurn_10 rfl rfl ?_
  refine zc_V (n := 14) (As := []) (ci := 16) (mc := 0) (ms := 0) dX11_addTurn_11 ok_X11_requireNotPlayed ⟨ml_X11_187, im_X11_requireNotPlayed, sl_X11_requireNotPlayed⟩ rfl (hR.kd (lvC h3 (by omega))) rfl (Nat.le_of_ble_eq_true rfl) (by simp) (by omega) (Nat.le_refl _) (Nat.le_refl _) rfl rfl (c_requireNotPlayed hR h3 hp) ?_
  refine zs_aload_n (n := 15) dX11_addTurn_14 rfl rfl ?_
  refine zs_getr (b := (Λ 2)) (n := 18) dX11_addTurn_15 gf_X11_10 (hR.kd (lvC h3 (by omega))) (hR.pt (lvC h3 (by omega)) rfl (by decide)) rfl ?_
  refine zs_getr (b := (Λ 15)) (n := 21) dX11_addTurn_18 gf_X11_75 (hR.kd (lvC h3 (by omega))) (hR.pt (lvC h3 (by omega)) rfl (by decide)) rfl ?_
  refine zs_iload_n (n := 22) dX11_addTurn_21 rfl rfl ?_
  refine zc_getb (c := sc S 0) (b := (Λ (100 + i))) (n := 25) dX11_addTurn_22 ml_X11_103 (hR.lP h3) hi rfl (by simp) (by omega) rfl ?_
  refine zs_castS (ci := 11) (n := 28) dX11_addTurn_25 rfl cl_X11_90 (hR.kP hi) rfl ?_
  refine zs_getr (b := (Λ (120 + i))) (n := 31) dX11_addTurn_28 gf_X11_190 (hR.kP hi) (hR.pT hi) rfl ?_
  refine zs_astore_n (n := 32) dX11_addTurn_31 (by decide) rfl ?_
  refine zs_aload_n (n := 33) dX11_addTurn_32 rfl rfl ?_
  refine zs_getr (b := (Λ 2)) (n := 36) dX11_addTurn_33 gf_X11_10 (hR.kd (lvC h3 (by omega))) (hR.pt (lvC h3 (by omega)) rfl (by decide)) rfl ?_
  refine zs_iload_n (n := 37) dX11_addTurn_36 rfl rfl ?_
  refine zs_iload_n (n := 38) dX11_addTurn_37 rfl rfl ?_
  refine zc_V (n := 41) (As := [.int (nI a), .int (nI i)]) (ci := 12) (mc := 0) (ms := 0) dX11_addTurn_38 ok_X7_hasTurnElsewhere ⟨ml_X11_193, im_X7_hasTurnElsewhere, sl_X7_hasTurnElsewhere⟩ rfl (hR.kd (lvC h3 (by omega))) rfl (Nat.le_of_ble_eq_true rfl) (by simp) (by omega) (Nat.le_refl _) (Nat.le_refl _) rfl rfl (c_hasTurnElsewhere hR h3 (by omega)) ?_
  refine zs_if_ne (tgt := 53) (n := 44) dX11_addTurn_41 (by decide) rfl (fun h => absurd hel h) (fun _ => ?_)
  refine zs_aload_n (n := 45) dX11_addTurn_44 rfl rfl ?_
  refine zc_size (c := sc S (10 + i)) (n := 48) dX11_addTurn_45 ml_X11_79 (hR.lT hi) (by simp) (by omega) rfl ?_
  refine zs_bipush (v := 8) (n := 50) dX11_addTurn_48 (by decide) rfl ?_
  refine zs_icmp_lt (tgt := 63) (n := 53) dX11_addTurn_50 (by decide) rfl (fun _ => ?_) (fun h => absurd (nI_lt (b := 8) hn (by omega)) h)
  refine zs_aload_n (n := 64) dX11_addTurn_63 rfl rfl ?_
  refine zs_new (kind := 23) (N := 9) (nc1 := 1) (ns1 := 10) (n := 67) (160 + 8 * i + sc S (10 + i)) dX11_addTurn_64 nc_X11_198 rfl (by omega) (by omega) (fun q hq => ?_)
  have hG : zRp Z Λ S (zNew M q 23 0 (160 + 8 * i + sc S (10 + i))) := hR.grow (fun _ _ => rfl) ⟨rfl, rfl⟩ (fun _ _ _ => rfl) (zNew_ag hq)
  have hR0 := hR
  have hR := hG
  refine zs_dup (n := 68) dX11_addTurn_67 rfl rfl ?_
  refine zs_aload_n (n := 69) dX11_addTurn_68 rfl rfl ?_
  refine zs_getr (b := (Λ 2)) (n := 72) dX11_addTurn_69 gf_X11_10 (hR.kd (lvC h3 (by omega))) (hR.pt (lvC h3 (by omega)) rfl (by decide)) rfl ?_
  refine zs_getr (b := (Λ 17)) (n := 75) dX11_addTurn_72 gf_X11_115 (hR.kd (lvC h3 (by omega))) (hR.pt (lvC h3 (by omega)) rfl (by decide)) rfl ?_
  refine zs_iload_n (n := 76) dX11_addTurn_75 rfl rfl ?_
  refine zc_getb (c := sc S 1) (b := (Λ (140 + a))) (n := 79) dX11_addTurn_76 ml_X11_103 (hR.lA h3) ha rfl (by simp) (by omega) rfl ?_
  refine zs_castS (ci := 5) (n := 82) dX11_addTurn_79 rfl cl_X11_120 (hR.kA ha) rfl ?_
  refine zc_I (n := 85) (As := [.ref (Λ (140 + a))]) (mc := 0) (ms := 0) dX11_addTurn_82 ok_X8_init ⟨ml_X11_200, im_X8_init, rfl, rfl⟩ rfl (Nat.le_of_ble_eq_true rfl) (by simp) (by omega) (Nat.le_refl _) (Nat.le_refl _) rfl rfl (m_Turn_init u1_at) ?_
  have hno : ¬ zlv (sc S) (160 + 8 * i + sc S (10 + i)) := zlv_no hb (Or.inr (Or.inl ⟨i, _, rfl, by omega, hn, Nat.le_refl _⟩))
  have hG2 := hR0.grow1 (q := q) (s0 := (160 + 8 * i + sc S (10 + i))) (zus_ne hb hno (by omega)) (by omega) (fun r hr => zrw_hi (by omega) hr) (mTurN_ag (g := (160 + 8 * i + sc S (10 + i))) (p := Λ (140 + a)) hq)
  have hci : zci (120 + i) = 10 + i := zci_T (by omega)
  have hct : zct (sc S) (120 + i) = sc S (10 + i) := zct_T (by omega)
  have hb' : zBnd (cset (sc S) (zci (120 + i)) (zct (sc S) (120 + i) + 1)) := hb.up (by unfold zlr; omega) (by rw [if_neg (by omega), if_neg (by omega), hct]; omega)
  have ebs : zbs (120 + i) + zct (sc S) (120 + i) = (160 + 8 * i + sc S (10 + i)) := by rw [hct, zbs_T (by omega)]
  refine zw_add (r := 120 + i) (V' := u1 (sV S) (160 + 8 * i + sc S (10 + i)) (fun _ => 0)) (W' := u1 (sW S) (160 + 8 * i + sc S (10 + i)) (fun _ => 0)) (T' := u2 (sT S) i (sc S (10 + i)) a) (P' := sP S) (nc1 := 0) (ns1 := 0) (n := 88) (u1_ne (by omega)) dX11_addTurn_85 ml_X11_95 hG2 (lvT hi) (zki_T (by omega)) (by omega) hb' (by rw [ebs]; exact (u1_at (f := Λ)).symm) (Or.inl ⟨13, _, u1_at, rfl, co_X8⟩) (fun s hs hns => ?_) (fun s hs k _ _ => congrFun (u1_ne (f := sV S) (fun e => hno (by rw [← e]; exact hs))) k) (fun s hs j => congrFun (u1_ne (f := sW S) (fun e => hno (by rw [← e]; exact hs))) j) (fun i2 k2 hi2 hk2 => by unfold u2; rw [if_neg (fun e => by have := e.2; subst this; omega)]) (fun _ _ => rfl) (fun _ => rfl) (hG2.ints.same (show cset (sc S) (zci (120 + i)) _ 1003 = sc S 1003 from cset_ne (by omega)) (show cset (sc S) (zci (120 + i)) _ 6 = sc S 6 from cset_ne (by omega)) (fun s hs => congrFun (u1_ne (f := sV S) (by omega)) 32)) (by simp) (by omega) (by omega) (by omega) rfl ?_
  · rw [hci, hct] at hs
    have e : s = (160 + 8 * i + sc S (10 + i)) := zlvK_new hb hs (by omega) hns
    subst e
    have ek : zki (160 + 8 * i + sc S (10 + i)) = 23 := by rw [Nat.add_assoc]; exact zki_K (by omega)
    refine zOne_plain u1_at ((u1_at).trans ek.symm) u1_at (zle_hi (by omega)) (by omega) (by rw [ek]; decide) (by omega) (fun k _ _ => ?_) (fun j => ?_) (fun i2 k hi2 hk2 h => ?_) (fun j hj h => ?_)
    · exact (congrFun (u1_at : u1 (vI M) q (fun _ => 0) q = fun _ => 0) k).trans (congrFun (u1_at (f := sV S) (v := fun _ => 0)) k).symm
    · exact (congrFun (u1_at : u1 (aI M) q (fun _ => 0) q = fun _ => 0) j).trans (congrFun (u1_at (f := sW S) (v := fun _ => 0)) j).symm
    · rw [hci, hct] at hi2 hk2
      rw [cset_ne (by omega)] at hi2
      have b8 := hb'.1.2.2.2 i2
      rw [hci, hct] at b8
      have e : i2 = i := by omega
      subst e
      have e : k = sc S (10 + i2) := by omega
      subst e
      rw [hci, hct, cset_ne (by omega)]
      refine ⟨by rw [u2_at]; exact ha, ?_⟩
      rw [u2_at, show u1 Λ (160 + 8 * i2 + sc S (10 + i2)) q (140 + a) = Λ (140 + a) from u1_ne (by have := hb.1.2.1; omega)]
      exact u2_at
    · have := hb'.1.2.2.1
      omega
  clear hR hG hG2
  intro Λ M hR hΛ
  rw [zrw_T (by omega)] at hΛ
  rw [hci, hct] at hR
  have e1 : Λ 1 = _ := (hΛ 1 (by omega)).trans (u1_ne (by omega))
  have hS := (show zSame _ Λ from ⟨e1, (hΛ 1001 (by omega)).trans (u1_ne (by omega)), (hΛ 40 (by omega)).trans (u1_ne (by omega)), (hΛ 41 (by omega)).trans (u1_ne (by omega))⟩)
  have e2 : Λ (120 + i) = _ := (hΛ (120 + i) (by omega)).trans (u1_ne (by omega))
  rw [← e1, ← e2]
  have hR : zRp Z Λ (fAddTurn S i a) M := hR
  have hi0 := hi
  have hi : i < sc (fAddTurn S i a) 0 := by rw [show sc (fAddTurn S i a) 0 = sc S 0 from cset_ne (by omega)]; exact hi
  have hcn : sc (fAddTurn S i a) (10 + i) = sc S (10 + i) + 1 := cset_at
  refine zs_pop (n := 89) dX11_addTurn_88 rfl rfl ?_
  refine zs_aload_n (n := 90) dX11_addTurn_89 rfl rfl ?_
  refine zc_size (c := sc (fAddTurn S i a) (10 + i)) (n := 93) dX11_addTurn_90 ml_X11_79 (hR.lT hi) (by simp) (by omega) rfl ?_
  rw [hcn]
  refine zs_ireturn dX11_addTurn_93 ⟨_, rfl, rfl⟩ ?_
  exact hQ _ _ hR hS
end ZADD3
