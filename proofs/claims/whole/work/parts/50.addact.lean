/-! THE FACE'S addAct -/
section ZADD
variable {Z : zPar} {l : Launch} {Λ : Nat → Nat} {S : zSt} {M : zMem}
def zSame (Λ Λ' : Nat → Nat) : Prop := Λ' 1 = Λ 1 ∧ Λ' 1001 = Λ 1001 ∧ Λ' 40 = Λ 40 ∧ Λ' 41 = Λ 41
theorem f_addAct {mi lo sk li fi : Int32} (hR : zRp Z Λ S M) (h3 : sc S 3 = 1) (g1 : ¬ mi < 5) (g2 : mi ≤ 60) (g3 : ¬ lo < 0) (g4 : lo ≤ 9) (g5 : ¬ sk < 1) (g6 : sk ≤ 9) (g7 : ¬ li < 1) (g8 : li ≤ 9) (hf : fi = 0 ∨ fi = 1) (hn : sc S 1 < 8) {Q : zO → zMem → Prop} (hQ : ∀ Λ' M', zRp Z Λ' (fAddAct S mi lo sk li fi) M' → zSame Λ Λ' → Q (.inl (some (.int (nI (sc S 1))))) M') : zX Z l 6 mth_X11_addAct 0 (lv_args 0 [.ref (Λ 1), .int mi, .int lo, .int sk, .int li, .int fi]) [] M 2 19 Q := by
  show zX Z l 6 mth_X11_addAct 0 [(0, .ref (Λ 1)), (1, .int mi), (2, .int lo), (3, .int sk), (4, .int li), (5, .int fi)] [] M 2 19 Q
  refine zs_iload_n (n := 1) dX11_addAct_0 rfl rfl ?_
  refine zs_iconst (v := 5) (n := 2) dX11_addAct_1 (by decide) rfl ?_
  refine zs_bipush (v := 60) (n := 4) dX11_addAct_2 (by decide) rfl ?_
  refine zc_S (n := 7) (As := [.int mi, .int (5 : Int32), .int (60 : Int32)]) (mc := 0) (ms := 0) dX11_addAct_4 ok_X11_requireRange ⟨ml_X11_60, st_X11_requireRange⟩ rfl (Nat.le_of_ble_eq_true rfl) (by simp) (by omega) (Nat.le_refl _) (Nat.le_refl _) rfl rfl (c_requireRange (by assumption) (by assumption)) ?_
  refine zs_iload_n (n := 8) dX11_addAct_7 rfl rfl ?_
  refine zs_iconst (v := 0) (n := 9) dX11_addAct_8 (by decide) rfl ?_
  refine zs_bipush (v := 9) (n := 11) dX11_addAct_9 (by decide) rfl ?_
  refine zc_S (n := 14) (As := [.int lo, .int (0 : Int32), .int (9 : Int32)]) (mc := 0) (ms := 0) dX11_addAct_11 ok_X11_requireRange ⟨ml_X11_60, st_X11_requireRange⟩ rfl (Nat.le_of_ble_eq_true rfl) (by simp) (by omega) (Nat.le_refl _) (Nat.le_refl _) rfl rfl (c_requireRange (by assumption) (by assumption)) ?_
  refine zs_iload_n (n := 15) dX11_addAct_14 rfl rfl ?_
  refine zs_iconst (v := 1) (n := 16) dX11_addAct_15 (by decide) rfl ?_
  refine zs_bipush (v := 9) (n := 18) dX11_addAct_16 (by decide) rfl ?_
  refine zc_S (n := 21) (As := [.int sk, .int (1 : Int32), .int (9 : Int32)]) (mc := 0) (ms := 0) dX11_addAct_18 ok_X11_requireRange ⟨ml_X11_60, st_X11_requireRange⟩ rfl (Nat.le_of_ble_eq_true rfl) (by simp) (by omega) (Nat.le_refl _) (Nat.le_refl _) rfl rfl (c_requireRange (by assumption) (by assumption)) ?_
  refine zs_iload (n := 23) dX11_addAct_21 rfl rfl ?_
  refine zs_iconst (v := 1) (n := 24) dX11_addAct_23 (by decide) rfl ?_
  refine zs_bipush (v := 9) (n := 26) dX11_addAct_24 (by decide) rfl ?_
  refine zc_S (n := 29) (As := [.int li, .int (1 : Int32), .int (9 : Int32)]) (mc := 0) (ms := 0) dX11_addAct_26 ok_X11_requireRange ⟨ml_X11_60, st_X11_requireRange⟩ rfl (Nat.le_of_ble_eq_true rfl) (by simp) (by omega) (Nat.le_refl _) (Nat.le_refl _) rfl rfl (c_requireRange (by assumption) (by assumption)) ?_
  refine zs_aload_n (n := 30) dX11_addAct_29 rfl rfl ?_
  refine zs_getr (b := (Λ 2)) (n := 33) dX11_addAct_30 gf_X11_10 (hR.kd (lvC h3 (by omega))) (hR.pt (lvC h3 (by omega)) rfl (by decide)) rfl ?_
  refine zs_getr (b := (Λ 17)) (n := 36) dX11_addAct_33 gf_X11_115 (hR.kd (lvC h3 (by omega))) (hR.pt (lvC h3 (by omega)) rfl (by decide)) rfl ?_
  refine zc_size (c := sc S 1) (n := 39) dX11_addAct_36 ml_X11_79 (hR.lA h3) (by simp) (by omega) rfl ?_
  refine zs_istore (n := 41) dX11_addAct_39 (by decide) rfl ?_
  refine zs_iload (n := 43) dX11_addAct_41 rfl rfl ?_
  refine zs_bipush (v := 8) (n := 45) dX11_addAct_43 (by decide) rfl ?_
  refine zs_icmp_lt (tgt := 58) (n := 48) dX11_addAct_45 (by decide) rfl (fun _ => ?_) (fun h => absurd (nI_lt (b := 8) hn (by omega)) h)
  refine zs_aload_n (n := 59) dX11_addAct_58 rfl rfl ?_
  refine zs_getr (b := (Λ 2)) (n := 62) dX11_addAct_59 gf_X11_10 (hR.kd (lvC h3 (by omega))) (hR.pt (lvC h3 (by omega)) rfl (by decide)) rfl ?_
  refine zs_getr (b := (Λ 17)) (n := 65) dX11_addAct_62 gf_X11_115 (hR.kd (lvC h3 (by omega))) (hR.pt (lvC h3 (by omega)) rfl (by decide)) rfl ?_
  refine zs_new (kind := 15) (N := 9) (nc1 := 1) (ns1 := 10) (n := 68) (140 + sc S 1) dX11_addAct_65 nc_X11_120 rfl (by omega) (by omega) (fun q hq => ?_)
  refine zs_dup (n := 69) dX11_addAct_68 rfl rfl ?_
  refine zs_iload (n := 71) dX11_addAct_69 rfl rfl ?_
  refine zs_iload_n (n := 72) dX11_addAct_71 rfl rfl ?_
  refine zs_iload_n (n := 73) dX11_addAct_72 rfl rfl ?_
  refine zs_iload_n (n := 74) dX11_addAct_73 rfl rfl ?_
  refine zs_iload (n := 76) dX11_addAct_74 rfl rfl ?_
  refine zs_iload (n := 78) dX11_addAct_76 rfl rfl ?_
  refine zc_I (n := 81) (As := [.int (nI (sc S 1)), .int mi, .int lo, .int sk, .int li, .int fi]) (mc := 0) (ms := 0) dX11_addAct_78 ok_X0_init ⟨ml_X11_122, im_X0_init, rfl, rfl⟩ rfl (Nat.le_of_ble_eq_true rfl) (by simp) (by omega) (Nat.le_refl _) (Nat.le_refl _) rfl rfl (m_Act_init u1_at hf) ?_
  have hG := zRp_actGrown (mi := mi) (lo := lo) (sk := sk) (li := li) (fi := fi) hR hn hq
  have hL := hG.lA h3
  rw [show u1 Λ (140 + sc S 1) q 17 = Λ 17 from u1_ne (by omega), show u1 Λ (140 + sc S 1) q 18 = Λ 18 from u1_ne (by omega)] at hL
  have hag : ∀ a, mK M a ≠ 0 → zAg M (mActN M q (140 + sc S 1) (sc S 1) mi lo sk li fi) a := mActN_ag hq
  have hv : zOb (mActN M q (140 + sc S 1) (sc S 1) mi lo sk li fi) q := Or.inl ⟨5, _, u1_at, rfl, co_X0⟩
  have hr : sc S 1 < mN (mActN M q (140 + sc S 1) (sc S 1) mi lo sk li fi) (Λ 18) ∨ sc S 1 = 0 := by
    rcases hL.row with h9 | h9
    · exact Or.inr h9.2
    · have e9 := hag (Λ 18) (fun h8 => by have := (hR.lA h3).row; omega)
      have := (hR.rw (r := 17) (lvC h3 (by omega)) rfl (e9.1.symm.trans h9)).2
      refine Or.inl ?_
      rw [e9.2.1]
      exact Nat.lt_of_lt_of_le (by omega) this
  refine zc_add (v := q) (nc1 := 0) (ns1 := 0) (n := 84) 18 dX11_addAct_81 ml_X11_95 hL hv hr (by simp) (by omega) (by omega) (by omega) rfl (fun hk3 hc => ?_) (fun h0 h7 q2 hq2 => ?_)
  · refine zs_pop (n := 85) dX11_addAct_84 rfl rfl ?_
    refine zs_iload (n := 87) dX11_addAct_85 rfl rfl ?_
    refine zs_ireturn dX11_addAct_87 ⟨_, rfl, rfl⟩ ?_
    have e9 := hag (Λ 18) (fun h8 => by have := (hR.lA h3).row; omega)
    refine hQ _ _ (zRp_actRoom hR h3 hn hq (e9.1.symm.trans hk3) (by rw [← e9.2.1]; exact hc)) ⟨u1_ne (by omega), u1_ne (by omega), u1_ne (by omega), u1_ne (by omega)⟩
  · refine zs_pop (n := 85) dX11_addAct_84 rfl rfl ?_
    refine zs_iload (n := 87) dX11_addAct_85 rfl rfl ?_
    refine zs_ireturn dX11_addAct_87 ⟨_, rfl, rfl⟩ ?_
    have e9 := hag (Λ 18) (fun h8 => by have := (hR.lA h3).row; omega)
    refine hQ _ _ (zRp_actGrow hR h3 h0 hq (e9.1.symm.trans h7) hq2) ⟨(u1_ne (by omega)).trans (u1_ne (by omega)), (u1_ne (by omega)).trans (u1_ne (by omega)), (u1_ne (by omega)).trans (u1_ne (by omega)), (u1_ne (by omega)).trans (u1_ne (by omega))⟩
end ZADD
