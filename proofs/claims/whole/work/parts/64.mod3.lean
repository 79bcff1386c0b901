/-! THE MODEL: what makes things -/
section ZMOD3
variable {Z : zPar} {l : Launch} {Λ : Nat → Nat} {S : zSt} {M M0 : zMem} {d d' : Nat} {mm : zMeth} {pc n nc ns ix nc1 ns1 : Nat} {L : List (Nat × Value)} {st : List Value} {Q : zO → zMem → Prop}
theorem zs_invV8 {nargs mc ms : Nat} {mm' : zMeth} {st0 As : List Value} {Post : zO → zMem → Prop} {b ci : Nat} {r : vw_C} (hd : decode (zMC mm) pc = .ok (.invokevirtual ix, 3)) (hm : zMok mm' nargs) (hw : zwd (.methodLink (zMY mm).cls ix (zMY mm')) ∧ zwd (.instanceMethod (zMY mm')) ∧ zwd (.selects r.1 (zMY mm') (zMY mm'))) (hr : vwCl[ci]? = some r) (hK : mK M b = 10 + ci) (hAs : As.length = nargs) (hfit : (lg_sl (.ref b :: As)).length ≤ zML mm') (hst : (st.map fun v => v.category).sum ≤ 8) (hdd : d = d' + 1) (hc1 : nc1 + mc ≤ nc) (hs1 : ns1 + ms ≤ ns) (hstk : st0 = As.reverse ++ .ref b :: st) (hn : pc + 3 = n)
    (h : zX Z l d' mm' 0 (lv_args 0 (.ref b :: As)) [] M mc ms Post) (kx : ∀ k M', Post (.inr k) M' → zHx Z l d mm pc L nc1 ns1 Q k M') (kk : ∀ v M', Post (.inl v) M' → zX Z l d mm n L (v.toList ++ st) M' nc1 ns1 Q) : zX Z l d mm pc L st0 M nc ns Q := by
  subst hn
  intro p e R s m args below meth c H locs cells slots QF ls C hl hM hS hc hs hE
  have hW := C.2.2.2.2.2.2.2.2.2.1
  refine zrun (vx_runV (C := r.1) (b := b) (As := As) (rest := st) (Ts := []) (g := F0 m pc ls st0) ⟨C.1, C.2.1, C.2.2.1, C.2.2.2.1, fun w h => nomatch h⟩ (zmet C.2.2.2.2.2.2.2.2.1 hm.1 hm.2.1 hfit h) ⟨C.callB args hm hdd hw.1, hW.use hw.2.1.1 hw.2.1.2, hW.use hw.2.2.1 hw.2.2.2⟩ ⟨zPre.blind, zRecv C hM hK hr, fun U hU hWm => ⟨rfl, C.pre hM hS U hU hWm⟩⟩ rfl hAs hl.1 hstk (by show 2 * 0 + _ ≤ 8; omega) hd ⟨by omega, by omega⟩) hS ?_ ?_
  · intro k M' ce q H1 locs1 hp hM1 hS1 hce hcv hcl
    exact (kx k M' hp).go C hl hM1 hS1 (by omega) (by omega) hE hce hcv hcl
  · intro v M' H1 locs1 hp hM1 hS1
    exact kk v M' hp p e R s m args below meth c H1 locs1 (cells + mc) (slots + ms) QF ls C hl hM1 hS1 (by omega) (by omega) hE
/-- size, with much on the stack -/
theorem zc_size8 {p e c : Nat} {f : Nat → Nat} (hd : decode (zMC mm) pc = .ok (.invokevirtual ix, 3)) (hw : zwd (.methodLink (zMY mm).cls ix yJx4a65c_size_8abf5)) (hL : zL Z M p e c f) (hst : (st.map fun v => v.category).sum ≤ 8) (hdd : 0 < d) (hn : pc + 3 = n) (kk : zX Z l d mm n L (.int (nI c) :: st) M nc ns Q) : zX Z l d mm pc L (.ref p :: st) M nc ns Q :=
  zs_invV8 (d' := d - 1) (ci := 4) (As := []) (mc := 0) (ms := 0) (Post := fun o M1 => o = .inl (some (.int (nI c))) ∧ M1 = M) hd ok_Jx4a65c_size_8abf5 ⟨hw, im_Jx4a65c_size_8abf5, sl_Jx4a65c_size_8abf5⟩ rfl hL.1 rfl (Nat.le_of_ble_eq_true rfl) hst (by omega) (Nat.le_refl _) (Nat.le_refl _) rfl hn ((m_size hL _ ⟨rfl, rfl⟩).deep (by omega)) (fun k M1 h => nomatch h.1) (fun v1 M1 h => by obtain ⟨h1, rfl⟩ := h; cases h1; exact kk)
/-- a thing of the model, just made and pictured, is added to its list -/
theorem zw_putm {r r0 q a9 : Nat} {p : zPc} {V0 : Nat → Int32} {c' : Nat → Nat} (hp9 : Λ r = a9) (hd : decode (zMC mm) pc = .ok (.invokevirtual ix, 3)) (hw : zwd (.methodLink (zMY mm).cls ix yJx4a65c_add_9ea2d)) (hR0 : zRp Z Λ S M0) (hP : zPic M0 (u1 Λ r0 q) p M) (hl : zlv (sc S) r) (hk : zki r = 14) (h10 : zct (sc S) r < 10) (hc' : c' = cset (sc S) (zci r) (zct (sc S) r + 1)) (hb' : zBnd c') (e0 : zbs r + zct (sc S) r = r0)
    (hno : ¬ zlv (sc S) r0) (h0 : 1140 ≤ r0 ∧ r0 < 1300) (hlive : p.1 r0 = true) (hkind : p.2.1 r0 = zki r0) (h14 : ∃ ci : Nat, ∃ rr : vw_C, zki r0 = 10 + ci ∧ vwCl[ci]? = some rr ∧ zwd (.castable rr.1 "java/lang/Object") ∧ ci ≠ 4) (hV : ∀ k, k ≠ 128 → k ≠ 130 → p.2.2.2.1 r0 k = V0 k) (hW : ∀ j, p.2.2.2.2.2.1 r0 j = 0)
    (hnew : ∀ s, zlv c' s → ¬ zlv (sc S) s → s = r0) (h1003 : c' 1003 = sc S 1003 ∧ c' 6 = sc S 6) (hst : st.length ≤ 4) (hdd : 4 < d) (hc1 : nc1 + 1 ≤ nc) (hs1 : ns1 + 10 ≤ ns) (hn : pc + 3 = n)
    (kk : ∀ Λ' M', zRp Z Λ' (c', u1 (sV S) r0 V0, u1 (sW S) r0 (fun _ => 0), sT S, sP S) M' → zSame Λ Λ' → (∀ s, s ≠ r0 → s ≠ zrw r → Λ' s = Λ s) → zX Z l d mm n L (.int 1 :: st) M' nc1 ns1 Q) : zX Z l d mm pc L (.ref q :: .ref a9 :: st) M nc ns Q := by
  subst hc'
  subst hp9
  have hb := hR0.bnd
  have hus := zus_ne hb hno (by omega)
  have hzr : ∀ r', zlr r' → zrw r' ≠ r0 := fun r' hr' => by
    have := zrw_val hr'
    omega
  have hr := zlr_of hk
  have hG : zRp Z (u1 Λ r0 q) S M := hR0.grow (fun s hs => u1_ne (hus s hs)) ⟨u1_ne (by omega), u1_ne (by omega)⟩ (fun r' _ hk' => u1_ne (hzr r' (zlr_of hk'))) hP.1
  obtain ⟨⟨p1, p2, p3, p4, p5⟩, p6, p7, p8, p9⟩ := hP.2 r0 hlive
  have eq : u1 Λ r0 q r0 = q := u1_at
  rw [eq] at p3 p4 p5 p6 p7 p8 p9
  obtain ⟨ci, rr, k1, k2, k3, k4⟩ := h14
  have hrr : r ≠ r0 := hus r (Or.inl hl)
  have hz14 : zki r0 ≠ 14 := by omega
  refine zw_add (r := r) (V' := u1 (sV S) r0 V0) (W' := u1 (sW S) r0 (fun _ => 0)) (T' := sT S) (P' := sP S) (nc1 := nc1) (ns1 := ns1) (n := n) (u1_ne hrr) hd hw hG hl hk h10 hb' (by rw [e0]; exact eq.symm) (Or.inl ⟨ci, rr, (p3.trans hkind).trans k1, k2, k3⟩) (fun s hs hns => ?_) (fun s hs k _ _ => congrFun (u1_ne (f := sV S) (fun e => hno (by rw [← e]; exact hs))) k) (fun s hs j => congrFun (u1_ne (f := sW S) (fun e => hno (by rw [← e]; exact hs))) j) (fun _ _ _ _ => rfl) (fun _ _ => rfl) (fun _ => rfl) (hG.ints.same h1003.1 h1003.2 (fun s hs => congrFun (u1_ne (f := sV S) (by omega)) 32)) hst hdd hc1 hs1 hn ?_
  · have e := hnew s hs hns
    subst e
    refine zOne_plain eq (p3.trans hkind) p5 (zle_hi (by omega)) (by omega) hz14 (by omega) (fun k h1 h2 => ?_) (fun j => ?_) (fun i k hi hk2 h => ?_) (fun j hj h => ?_)
    · rw [p6]
      exact (hV k h1 h2).trans (congrFun (u1_at (f := sV S) (v := V0)) k).symm
    · rw [p8]
      exact (hW j).trans (congrFun (u1_at (f := sW S) (v := fun _ => 0)) j).symm
    · have := hb'.1.1
      have := hb'.1.2.2.2 i
      omega
    · have := hb'.1.2.2.1
      omega
  · intro Λ' M' hR hΛ
    have hz := zrw_val hr
    have hx : ∀ s, s ≠ r0 → s ≠ zrw r → Λ' s = Λ s := fun s h1 h2 => (hΛ s h2).trans (u1_ne h1)
    refine kk Λ' M' hR ⟨hx 1 (by omega) ?_, hx 1001 (by omega) (by omega), hx 40 (by omega) (by omega), hx 41 (by omega) (by omega)⟩ hx
    intro e
    have hmin : 16 ≤ zrw r := by
      unfold zlr at hr
      unfold zrw
      split <;> omega
    omega
def fAddActM (S : zSt) (mi lo sk li fi : Int32) : zSt := ((cset (sc S) 1001 (sc S 1001 + 1)), u1 (u2 (sV S) 1001 672 0) (1140 + sc S 1001) (fun k => if k = 551 then nI (sc S 1001) else if k = 548 then fi else if k = 547 then li else if k = 546 then sk else if k = 545 then lo else if k = 544 then mi else 0), u1 (sW S) (1140 + sc S 1001) (fun _ => 0), sT S, sP S)
theorem k_addAct_1 {mi lo sk li fi : Int32} (hR : zRp Z Λ S M) (h4 : sc S 4 = 1) (hx9 : mi < 5 ∨ ¬ mi ≤ 60) : zG Z l 2 mth_X16_addAct [.ref (Λ 1001), .int mi, .int lo, .int sk, .int li, .int fi] M 0 0 (some (.int 0)) ((zRp Z Λ (mT S 1))) := by
  intro Q hQ
  show zX Z l 2 mth_X16_addAct 0 [(0, .ref (Λ 1001)), (1, .int mi), (2, .int lo), (3, .int sk), (4, .int li), (5, .int fi)] [] M 0 0 Q
  refine zs_iload_n (n := 1) dX16_addAct_0 rfl rfl ?_
  refine zs_i2l (n := 2) dX16_addAct_1 rfl ?_
  refine zs_ldc2 (n := 5) dX16_addAct_2 ct_X16_107 rfl ?_
  refine zs_ldc2 (n := 8) dX16_addAct_5 ct_X16_109 rfl ?_
  refine zc_S (n := 11) (As := [.long mi.toInt64, .long (5 : Int64), .long (60 : Int64)]) (mc := 0) (ms := 0) dX16_addAct_8 ok_X16_in ⟨ml_X16_50, st_X16_in⟩ rfl (Nat.le_of_ble_eq_true rfl) (by simp) (by omega) (Nat.le_refl _) (Nat.le_refl _) rfl rfl (m_in (x := mi) (lo := (5 : Int32)) (hi := (60 : Int32)) rfl (by first | rfl | decide) (by first | rfl | decide)) ?_
  refine zs_if_eq (tgt := 55) (n := 14) dX16_addAct_11 (by decide) rfl (fun _ => ?_) (fun h => absurd (zb0.mpr (fIn_f hx9)) h)
  refine zs_iconst (v := 0) (n := 56) dX16_addAct_55 (by decide) rfl ?_
  refine zs_istore (n := 58) dX16_addAct_56 (by decide) rfl ?_
  refine zs_aload_n (n := 59) dX16_addAct_58 rfl rfl ?_
  refine zs_iload (n := 61) dX16_addAct_59 rfl rfl ?_
  refine zs_if_ne (tgt := 68) (n := 64) dX16_addAct_61 (by decide) rfl (fun h => absurd (by decide) h) (fun _ => ?_)
  refine zs_iconst (v := 1) (n := 65) dX16_addAct_64 (by decide) rfl ?_
  refine zs_goto (tgt := 85) dX16_addAct_65 (by decide) ?_
  refine zw_i (r := 1001) (n := 88) dX16_addAct_85 pf_X16_addAct_43 hR (lvM h4 (by omega)) (hR.kd (lvM h4 (by omega))) ⟨rfl, rfl⟩ (by decide) rfl ?_
  intro M hR hv
  refine zs_aload_n (n := 89) dX16_addAct_88 rfl rfl ?_
  refine zs_getv (x := (1 : Int32)) (n := 92) dX16_addAct_89 gf_X16_43 (hR.kd (lvM h4 (by omega))) (hR.iv (lvM h4 (by omega)) (by decide) (by decide)) rfl ?_
  refine zs_if_le (tgt := 97) (n := 95) dX16_addAct_92 (by decide) rfl (fun h => absurd h (by decide)) (fun _ => ?_)
  refine zs_iconst (v := 0) (n := 96) dX16_addAct_95 (by decide) rfl ?_
  refine zs_ireturn dX16_addAct_96 ⟨_, rfl, rfl⟩ ?_
  exact hQ _ hR
theorem k_addAct_2 {mi lo sk li fi : Int32} (hR : zRp Z Λ S M) (h4 : sc S 4 = 1) (g1 : ¬ mi < 5) (g2 : mi ≤ 60) (hx9 : lo < 0 ∨ ¬ lo ≤ 9) : zG Z l 2 mth_X16_addAct [.ref (Λ 1001), .int mi, .int lo, .int sk, .int li, .int fi] M 0 0 (some (.int 0)) ((zRp Z Λ (mT S 1))) := by
  intro Q hQ
  show zX Z l 2 mth_X16_addAct 0 [(0, .ref (Λ 1001)), (1, .int mi), (2, .int lo), (3, .int sk), (4, .int li), (5, .int fi)] [] M 0 0 Q
  refine zs_iload_n (n := 1) dX16_addAct_0 rfl rfl ?_
  refine zs_i2l (n := 2) dX16_addAct_1 rfl ?_
  refine zs_ldc2 (n := 5) dX16_addAct_2 ct_X16_107 rfl ?_
  refine zs_ldc2 (n := 8) dX16_addAct_5 ct_X16_109 rfl ?_
  refine zc_S (n := 11) (As := [.long mi.toInt64, .long (5 : Int64), .long (60 : Int64)]) (mc := 0) (ms := 0) dX16_addAct_8 ok_X16_in ⟨ml_X16_50, st_X16_in⟩ rfl (Nat.le_of_ble_eq_true rfl) (by simp) (by omega) (Nat.le_refl _) (Nat.le_refl _) rfl rfl (m_in (x := mi) (lo := (5 : Int32)) (hi := (60 : Int32)) rfl (by first | rfl | decide) (by first | rfl | decide)) ?_
  refine zs_if_eq (tgt := 55) (n := 14) dX16_addAct_11 (by decide) rfl (fun h => absurd h (zb1.mpr (fIn_t g1 g2))) (fun _ => ?_)
  refine zs_iload_n (n := 15) dX16_addAct_14 rfl rfl ?_
  refine zs_i2l (n := 16) dX16_addAct_15 rfl ?_
  refine zs_lconst (v := 0) (n := 17) dX16_addAct_16 (by decide) rfl ?_
  refine zs_ldc2 (n := 20) dX16_addAct_17 ct_X16_75 rfl ?_
  refine zc_S (n := 23) (As := [.long lo.toInt64, .long (0 : Int64), .long (9 : Int64)]) (mc := 0) (ms := 0) dX16_addAct_20 ok_X16_in ⟨ml_X16_50, st_X16_in⟩ rfl (Nat.le_of_ble_eq_true rfl) (by simp) (by omega) (Nat.le_refl _) (Nat.le_refl _) rfl rfl (m_in (x := lo) (lo := (0 : Int32)) (hi := (9 : Int32)) rfl (by first | rfl | decide) (by first | rfl | decide)) ?_
  refine zs_if_eq (tgt := 55) (n := 26) dX16_addAct_23 (by decide) rfl (fun _ => ?_) (fun h => absurd (zb0.mpr (fIn_f hx9)) h)
  refine zs_iconst (v := 0) (n := 56) dX16_addAct_55 (by decide) rfl ?_
  refine zs_istore (n := 58) dX16_addAct_56 (by decide) rfl ?_
  refine zs_aload_n (n := 59) dX16_addAct_58 rfl rfl ?_
  refine zs_iload (n := 61) dX16_addAct_59 rfl rfl ?_
  refine zs_if_ne (tgt := 68) (n := 64) dX16_addAct_61 (by decide) rfl (fun h => absurd (by decide) h) (fun _ => ?_)
  refine zs_iconst (v := 1) (n := 65) dX16_addAct_64 (by decide) rfl ?_
  refine zs_goto (tgt := 85) dX16_addAct_65 (by decide) ?_
  refine zw_i (r := 1001) (n := 88) dX16_addAct_85 pf_X16_addAct_43 hR (lvM h4 (by omega)) (hR.kd (lvM h4 (by omega))) ⟨rfl, rfl⟩ (by decide) rfl ?_
  intro M hR hv
  refine zs_aload_n (n := 89) dX16_addAct_88 rfl rfl ?_
  refine zs_getv (x := (1 : Int32)) (n := 92) dX16_addAct_89 gf_X16_43 (hR.kd (lvM h4 (by omega))) (hR.iv (lvM h4 (by omega)) (by decide) (by decide)) rfl ?_
  refine zs_if_le (tgt := 97) (n := 95) dX16_addAct_92 (by decide) rfl (fun h => absurd h (by decide)) (fun _ => ?_)
  refine zs_iconst (v := 0) (n := 96) dX16_addAct_95 (by decide) rfl ?_
  refine zs_ireturn dX16_addAct_96 ⟨_, rfl, rfl⟩ ?_
  exact hQ _ hR
theorem k_addAct_3 {mi lo sk li fi : Int32} (hR : zRp Z Λ S M) (h4 : sc S 4 = 1) (g1 : ¬ mi < 5) (g2 : mi ≤ 60) (g3 : ¬ lo < 0) (g4 : lo ≤ 9) (hx9 : sk < 1 ∨ ¬ sk ≤ 9) : zG Z l 2 mth_X16_addAct [.ref (Λ 1001), .int mi, .int lo, .int sk, .int li, .int fi] M 0 0 (some (.int 0)) ((zRp Z Λ (mT S 1))) := by
  intro Q hQ
  show zX Z l 2 mth_X16_addAct 0 [(0, .ref (Λ 1001)), (1, .int mi), (2, .int lo), (3, .int sk), (4, .int li), (5, .int fi)] [] M 0 0 Q
  refine zs_iload_n (n := 1) dX16_addAct_0 rfl rfl ?_
  refine zs_i2l (n := 2) dX16_addAct_1 rfl ?_
  refine zs_ldc2 (n := 5) dX16_addAct_2 ct_X16_107 rfl ?_
  refine zs_ldc2 (n := 8) dX16_addAct_5 ct_X16_109 rfl ?_
  refine zc_S (n := 11) (As := [.long mi.toInt64, .long (5 : Int64), .long (60 : Int64)]) (mc := 0) (ms := 0) dX16_addAct_8 ok_X16_in ⟨ml_X16_50, st_X16_in⟩ rfl (Nat.le_of_ble_eq_true rfl) (by simp) (by omega) (Nat.le_refl _) (Nat.le_refl _) rfl rfl (m_in (x := mi) (lo := (5 : Int32)) (hi := (60 : Int32)) rfl (by first | rfl | decide) (by first | rfl | decide)) ?_
  refine zs_if_eq (tgt := 55) (n := 14) dX16_addAct_11 (by decide) rfl (fun h => absurd h (zb1.mpr (fIn_t g1 g2))) (fun _ => ?_)
  refine zs_iload_n (n := 15) dX16_addAct_14 rfl rfl ?_
  refine zs_i2l (n := 16) dX16_addAct_15 rfl ?_
  refine zs_lconst (v := 0) (n := 17) dX16_addAct_16 (by decide) rfl ?_
  refine zs_ldc2 (n := 20) dX16_addAct_17 ct_X16_75 rfl ?_
  refine zc_S (n := 23) (As := [.long lo.toInt64, .long (0 : Int64), .long (9 : Int64)]) (mc := 0) (ms := 0) dX16_addAct_20 ok_X16_in ⟨ml_X16_50, st_X16_in⟩ rfl (Nat.le_of_ble_eq_true rfl) (by simp) (by omega) (Nat.le_refl _) (Nat.le_refl _) rfl rfl (m_in (x := lo) (lo := (0 : Int32)) (hi := (9 : Int32)) rfl (by first | rfl | decide) (by first | rfl | decide)) ?_
  refine zs_if_eq (tgt := 55) (n := 26) dX16_addAct_23 (by decide) rfl (fun h => absurd h (zb1.mpr (fIn_t g3 g4))) (fun _ => ?_)
  refine zs_iload_n (n := 27) dX16_addAct_26 rfl rfl ?_
  refine zs_i2l (n := 28) dX16_addAct_27 rfl ?_
  refine zs_lconst (v := 1) (n := 29) dX16_addAct_28 (by decide) rfl ?_
  refine zs_ldc2 (n := 32) dX16_addAct_29 ct_X16_75 rfl ?_
  refine zc_S (n := 35) (As := [.long sk.toInt64, .long (1 : Int64), .long (9 : Int64)]) (mc := 0) (ms := 0) dX16_addAct_32 ok_X16_in ⟨ml_X16_50, st_X16_in⟩ rfl (Nat.le_of_ble_eq_true rfl) (by simp) (by omega) (Nat.le_refl _) (Nat.le_refl _) rfl rfl (m_in (x := sk) (lo := (1 : Int32)) (hi := (9 : Int32)) rfl (by first | rfl | decide) (by first | rfl | decide)) ?_
  refine zs_if_eq (tgt := 55) (n := 38) dX16_addAct_35 (by decide) rfl (fun _ => ?_) (fun h => absurd (zb0.mpr (fIn_f hx9)) h)
  refine zs_iconst (v := 0) (n := 56) dX16_addAct_55 (by decide) rfl ?_
  refine zs_istore (n := 58) dX16_addAct_56 (by decide) rfl ?_
  refine zs_aload_n (n := 59) dX16_addAct_58 rfl rfl ?_
  refine zs_iload (n := 61) dX16_addAct_59 rfl rfl ?_
  refine zs_if_ne (tgt := 68) (n := 64) dX16_addAct_61 (by decide) rfl (fun h => absurd (by decide) h) (fun _ => ?_)
  refine zs_iconst (v := 1) (n := 65) dX16_addAct_64 (by decide) rfl ?_
  refine zs_goto (tgt := 85) dX16_addAct_65 (by decide) ?_
  refine zw_i (r := 1001) (n := 88) dX16_addAct_85 pf_X16_addAct_43 hR (lvM h4 (by omega)) (hR.kd (lvM h4 (by omega))) ⟨rfl, rfl⟩ (by decide) rfl ?_
  intro M hR hv
  refine zs_aload_n (n := 89) dX16_addAct_88 rfl rfl ?_
  refine zs_getv (x := (1 : Int32)) (n := 92) dX16_addAct_89 gf_X16_43 (hR.kd (lvM h4 (by omega))) (hR.iv (lvM h4 (by omega)) (by decide) (by decide)) rfl ?_
  refine zs_if_le (tgt := 97) (n := 95) dX16_addAct_92 (by decide) rfl (fun h => absurd h (by decide)) (fun _ => ?_)
  refine zs_iconst (v := 0) (n := 96) dX16_addAct_95 (by decide) rfl ?_
  refine zs_ireturn dX16_addAct_96 ⟨_, rfl, rfl⟩ ?_
  exact hQ _ hR
theorem k_addAct_4 {mi lo sk li fi : Int32} (hR : zRp Z Λ S M) (h4 : sc S 4 = 1) (g1 : ¬ mi < 5) (g2 : mi ≤ 60) (g3 : ¬ lo < 0) (g4 : lo ≤ 9) (g5 : ¬ sk < 1) (g6 : sk ≤ 9) (hx9 : li < 1 ∨ ¬ li ≤ 9) : zG Z l 2 mth_X16_addAct [.ref (Λ 1001), .int mi, .int lo, .int sk, .int li, .int fi] M 0 0 (some (.int 0)) ((zRp Z Λ (mT S 1))) := by
  intro Q hQ
  show zX Z l 2 mth_X16_addAct 0 [(0, .ref (Λ 1001)), (1, .int mi), (2, .int lo), (3, .int sk), (4, .int li), (5, .int fi)] [] M 0 0 Q
  refine zs_iload_n (n := 1) dX16_addAct_0 rfl rfl ?_
  refine zs_i2l (n := 2) dX16_addAct_1 rfl ?_
  refine zs_ldc2 (n := 5) dX16_addAct_2 ct_X16_107 rfl ?_
  refine zs_ldc2 (n := 8) dX16_addAct_5 ct_X16_109 rfl ?_
  refine zc_S (n := 11) (As := [.long mi.toInt64, .long (5 : Int64), .long (60 : Int64)]) (mc := 0) (ms := 0) dX16_addAct_8 ok_X16_in ⟨ml_X16_50, st_X16_in⟩ rfl (Nat.le_of_ble_eq_true rfl) (by simp) (by omega) (Nat.le_refl _) (Nat.le_refl _) rfl rfl (m_in (x := mi) (lo := (5 : Int32)) (hi := (60 : Int32)) rfl (by first | rfl | decide) (by first | rfl | decide)) ?_
  refine zs_if_eq (tgt := 55) (n := 14) dX16_addAct_11 (by decide) rfl (fun h => absurd h (zb1.mpr (fIn_t g1 g2))) (fun _ => ?_)
  refine zs_iload_n (n := 15) dX16_addAct_14 rfl rfl ?_
  refine zs_i2l (n := 16) dX16_addAct_15 rfl ?_
  refine zs_lconst (v := 0) (n := 17) dX16_addAct_16 (by decide) rfl ?_
  refine zs_ldc2 (n := 20) dX16_addAct_17 ct_X16_75 rfl ?_
  refine zc_S (n := 23) (As := [.long lo.toInt64, .long (0 : Int64), .long (9 : Int64)]) (mc := 0) (ms := 0) dX16_addAct_20 ok_X16_in ⟨ml_X16_50, st_X16_in⟩ rfl (Nat.le_of_ble_eq_true rfl) (by simp) (by omega) (Nat.le_refl _) (Nat.le_refl _) rfl rfl (m_in (x := lo) (lo := (0 : Int32)) (hi := (9 : Int32)) rfl (by first | rfl | decide) (by first | rfl | decide)) ?_
  refine zs_if_eq (tgt := 55) (n := 26) dX16_addAct_23 (by decide) rfl (fun h => absurd h (zb1.mpr (fIn_t g3 g4))) (fun _ => ?_)
  refine zs_iload_n (n := 27) dX16_addAct_26 rfl rfl ?_
  refine zs_i2l (n := 28) dX16_addAct_27 rfl ?_
  refine zs_lconst (v := 1) (n := 29) dX16_addAct_28 (by decide) rfl ?_
  refine zs_ldc2 (n := 32) dX16_addAct_29 ct_X16_75 rfl ?_
  refine zc_S (n := 35) (As := [.long sk.toInt64, .long (1 : Int64), .long (9 : Int64)]) (mc := 0) (ms := 0) dX16_addAct_32 ok_X16_in ⟨ml_X16_50, st_X16_in⟩ rfl (Nat.le_of_ble_eq_true rfl) (by simp) (by omega) (Nat.le_refl _) (Nat.le_refl _) rfl rfl (m_in (x := sk) (lo := (1 : Int32)) (hi := (9 : Int32)) rfl (by first | rfl | decide) (by first | rfl | decide)) ?_
  refine zs_if_eq (tgt := 55) (n := 38) dX16_addAct_35 (by decide) rfl (fun h => absurd h (zb1.mpr (fIn_t g5 g6))) (fun _ => ?_)
  refine zs_iload (n := 40) dX16_addAct_38 rfl rfl ?_
  refine zs_i2l (n := 41) dX16_addAct_40 rfl ?_
  refine zs_lconst (v := 1) (n := 42) dX16_addAct_41 (by decide) rfl ?_
  refine zs_ldc2 (n := 45) dX16_addAct_42 ct_X16_75 rfl ?_
  refine zc_S (n := 48) (As := [.long li.toInt64, .long (1 : Int64), .long (9 : Int64)]) (mc := 0) (ms := 0) dX16_addAct_45 ok_X16_in ⟨ml_X16_50, st_X16_in⟩ rfl (Nat.le_of_ble_eq_true rfl) (by simp) (by omega) (Nat.le_refl _) (Nat.le_refl _) rfl rfl (m_in (x := li) (lo := (1 : Int32)) (hi := (9 : Int32)) rfl (by first | rfl | decide) (by first | rfl | decide)) ?_
  refine zs_if_eq (tgt := 55) (n := 51) dX16_addAct_48 (by decide) rfl (fun _ => ?_) (fun h => absurd (zb0.mpr (fIn_f hx9)) h)
  refine zs_iconst (v := 0) (n := 56) dX16_addAct_55 (by decide) rfl ?_
  refine zs_istore (n := 58) dX16_addAct_56 (by decide) rfl ?_
  refine zs_aload_n (n := 59) dX16_addAct_58 rfl rfl ?_
  refine zs_iload (n := 61) dX16_addAct_59 rfl rfl ?_
  refine zs_if_ne (tgt := 68) (n := 64) dX16_addAct_61 (by decide) rfl (fun h => absurd (by decide) h) (fun _ => ?_)
  refine zs_iconst (v := 1) (n := 65) dX16_addAct_64 (by decide) rfl ?_
  refine zs_goto (tgt := 85) dX16_addAct_65 (by decide) ?_
  refine zw_i (r := 1001) (n := 88) dX16_addAct_85 pf_X16_addAct_43 hR (lvM h4 (by omega)) (hR.kd (lvM h4 (by omega))) ⟨rfl, rfl⟩ (by decide) rfl ?_
  intro M hR hv
  refine zs_aload_n (n := 89) dX16_addAct_88 rfl rfl ?_
  refine zs_getv (x := (1 : Int32)) (n := 92) dX16_addAct_89 gf_X16_43 (hR.kd (lvM h4 (by omega))) (hR.iv (lvM h4 (by omega)) (by decide) (by decide)) rfl ?_
  refine zs_if_le (tgt := 97) (n := 95) dX16_addAct_92 (by decide) rfl (fun h => absurd h (by decide)) (fun _ => ?_)
  refine zs_iconst (v := 0) (n := 96) dX16_addAct_95 (by decide) rfl ?_
  refine zs_ireturn dX16_addAct_96 ⟨_, rfl, rfl⟩ ?_
  exact hQ _ hR
theorem k_addAct_5 {mi lo sk li fi : Int32} (hR : zRp Z Λ S M) (h4 : sc S 4 = 1) (g1 : ¬ mi < 5) (g2 : mi ≤ 60) (g3 : ¬ lo < 0) (g4 : lo ≤ 9) (g5 : ¬ sk < 1) (g6 : sk ≤ 9) (g7 : ¬ li < 1) (g8 : li ≤ 9) (hn : sc S 1001 = 8) : zG Z l 2 mth_X16_addAct [.ref (Λ 1001), .int mi, .int lo, .int sk, .int li, .int fi] M 0 0 (some (.int 0)) ((zRp Z Λ (mT S 2))) := by
  intro Q hQ
  show zX Z l 2 mth_X16_addAct 0 [(0, .ref (Λ 1001)), (1, .int mi), (2, .int lo), (3, .int sk), (4, .int li), (5, .int fi)] [] M 0 0 Q
  refine zs_iload_n (n := 1) dX16_addAct_0 rfl rfl ?_
  refine zs_i2l (n := 2) dX16_addAct_1 rfl ?_
  refine zs_ldc2 (n := 5) dX16_addAct_2 ct_X16_107 rfl ?_
  refine zs_ldc2 (n := 8) dX16_addAct_5 ct_X16_109 rfl ?_
  refine zc_S (n := 11) (As := [.long mi.toInt64, .long (5 : Int64), .long (60 : Int64)]) (mc := 0) (ms := 0) dX16_addAct_8 ok_X16_in ⟨ml_X16_50, st_X16_in⟩ rfl (Nat.le_of_ble_eq_true rfl) (by simp) (by omega) (Nat.le_refl _) (Nat.le_refl _) rfl rfl (m_in (x := mi) (lo := (5 : Int32)) (hi := (60 : Int32)) rfl (by first | rfl | decide) (by first | rfl | decide)) ?_
  refine zs_if_eq (tgt := 55) (n := 14) dX16_addAct_11 (by decide) rfl (fun h => absurd h (zb1.mpr (fIn_t g1 g2))) (fun _ => ?_)
  refine zs_iload_n (n := 15) dX16_addAct_14 rfl rfl ?_
  refine zs_i2l (n := 16) dX16_addAct_15 rfl ?_
  refine zs_lconst (v := 0) (n := 17) dX16_addAct_16 (by decide) rfl ?_
  refine zs_ldc2 (n := 20) dX16_addAct_17 ct_X16_75 rfl ?_
  refine zc_S (n := 23) (As := [.long lo.toInt64, .long (0 : Int64), .long (9 : Int64)]) (mc := 0) (ms := 0) dX16_addAct_20 ok_X16_in ⟨ml_X16_50, st_X16_in⟩ rfl (Nat.le_of_ble_eq_true rfl) (by simp) (by omega) (Nat.le_refl _) (Nat.le_refl _) rfl rfl (m_in (x := lo) (lo := (0 : Int32)) (hi := (9 : Int32)) rfl (by first | rfl | decide) (by first | rfl | decide)) ?_
  refine zs_if_eq (tgt := 55) (n := 26) dX16_addAct_23 (by decide) rfl (fun h => absurd h (zb1.mpr (fIn_t g3 g4))) (fun _ => ?_)
  refine zs_iload_n (n := 27) dX16_addAct_26 rfl rfl ?_
  refine zs_i2l (n := 28) dX16_addAct_27 rfl ?_
  refine zs_lconst (v := 1) (n := 29) dX16_addAct_28 (by decide) rfl ?_
  refine zs_ldc2 (n := 32) dX16_addAct_29 ct_X16_75 rfl ?_
  refine zc_S (n := 35) (As := [.long sk.toInt64, .long (1 : Int64), .long (9 : Int64)]) (mc := 0) (ms := 0) dX16_addAct_32 ok_X16_in ⟨ml_X16_50, st_X16_in⟩ rfl (Nat.le_of_ble_eq_true rfl) (by simp) (by omega) (Nat.le_refl _) (Nat.le_refl _) rfl rfl (m_in (x := sk) (lo := (1 : Int32)) (hi := (9 : Int32)) rfl (by first | rfl | decide) (by first | rfl | decide)) ?_
  refine zs_if_eq (tgt := 55) (n := 38) dX16_addAct_35 (by decide) rfl (fun h => absurd h (zb1.mpr (fIn_t g5 g6))) (fun _ => ?_)
  refine zs_iload (n := 40) dX16_addAct_38 rfl rfl ?_
  refine zs_i2l (n := 41) dX16_addAct_40 rfl ?_
  refine zs_lconst (v := 1) (n := 42) dX16_addAct_41 (by decide) rfl ?_
  refine zs_ldc2 (n := 45) dX16_addAct_42 ct_X16_75 rfl ?_
  refine zc_S (n := 48) (As := [.long li.toInt64, .long (1 : Int64), .long (9 : Int64)]) (mc := 0) (ms := 0) dX16_addAct_45 ok_X16_in ⟨ml_X16_50, st_X16_in⟩ rfl (Nat.le_of_ble_eq_true rfl) (by simp) (by omega) (Nat.le_refl _) (Nat.le_refl _) rfl rfl (m_in (x := li) (lo := (1 : Int32)) (hi := (9 : Int32)) rfl (by first | rfl | decide) (by first | rfl | decide)) ?_
  refine zs_if_eq (tgt := 55) (n := 51) dX16_addAct_48 (by decide) rfl (fun h => absurd h (zb1.mpr (fIn_t g7 g8))) (fun _ => ?_)
  refine zs_iconst (v := 1) (n := 52) dX16_addAct_51 (by decide) rfl ?_
  refine zs_goto (tgt := 56) dX16_addAct_52 (by decide) ?_
  refine zs_istore (n := 58) dX16_addAct_56 (by decide) rfl ?_
  refine zs_aload_n (n := 59) dX16_addAct_58 rfl rfl ?_
  refine zs_iload (n := 61) dX16_addAct_59 rfl rfl ?_
  refine zs_if_ne (tgt := 68) (n := 64) dX16_addAct_61 (by decide) rfl (fun _ => ?_) (fun h => absurd h (by decide))
  refine zs_aload_n (n := 69) dX16_addAct_68 rfl rfl ?_
  refine zs_getr (b := (Λ 1017)) (n := 72) dX16_addAct_69 gf_X16_16 (hR.kd (lvM h4 (by omega))) (hR.pt (lvM h4 (by omega)) rfl (by decide)) rfl ?_
  refine zc_size (c := sc S 1001) (n := 75) dX16_addAct_72 ml_X16_46 (hR.lA' h4) (by simp) (by omega) rfl ?_
  refine zs_bipush (v := 8) (n := 77) dX16_addAct_75 (by decide) rfl ?_
  refine zs_icmp_ne (tgt := 84) (n := 80) dX16_addAct_77 (by decide) rfl (fun h => absurd (by rw [hn]; rfl) h) (fun _ => ?_)
  refine zs_iconst (v := 2) (n := 81) dX16_addAct_80 (by decide) rfl ?_
  refine zs_goto (tgt := 85) dX16_addAct_81 (by decide) ?_
  refine zw_i (r := 1001) (n := 88) dX16_addAct_85 pf_X16_addAct_43 hR (lvM h4 (by omega)) (hR.kd (lvM h4 (by omega))) ⟨rfl, rfl⟩ (by decide) rfl ?_
  intro M hR hv
  refine zs_aload_n (n := 89) dX16_addAct_88 rfl rfl ?_
  refine zs_getv (x := (2 : Int32)) (n := 92) dX16_addAct_89 gf_X16_43 (hR.kd (lvM h4 (by omega))) (hR.iv (lvM h4 (by omega)) (by decide) (by decide)) rfl ?_
  refine zs_if_le (tgt := 97) (n := 95) dX16_addAct_92 (by decide) rfl (fun h => absurd h (by decide)) (fun _ => ?_)
  refine zs_iconst (v := 0) (n := 96) dX16_addAct_95 (by decide) rfl ?_
  refine zs_ireturn dX16_addAct_96 ⟨_, rfl, rfl⟩ ?_
  exact hQ _ hR
theorem k_addAct {mi lo sk li fi : Int32} (hR : zRp Z Λ S M) (h4 : sc S 4 = 1) (g1 : ¬ mi < 5) (g2 : mi ≤ 60) (g3 : ¬ lo < 0) (g4 : lo ≤ 9) (g5 : ¬ sk < 1) (g6 : sk ≤ 9) (g7 : ¬ li < 1) (g8 : li ≤ 9) (hs : fi = 0 ∨ fi = 1) (hn : sc S 1001 < 8) {Q : zO → zMem → Prop} (hQ : ∀ Λ' M', zRp Z Λ' (fAddActM S mi lo sk li fi) M' → zSame Λ Λ' → Q (.inl (some (.int (nI (sc S 1001))))) M') : zX Z l 5 mth_X16_addAct 0 (lv_args 0 [.ref (Λ 1001), .int mi, .int lo, .int sk, .int li, .int fi]) [] M 2 18 Q := by
  show zX Z l 5 mth_X16_addAct 0 [(0, .ref (Λ 1001)), (1, .int mi), (2, .int lo), (3, .int sk), (4, .int li), (5, .int fi)] [] M 2 18 Q
  have hs : narrow .boolean (.int fi) = .int fi ∧ fits .boolean (.int fi) = true := by rcases hs with rfl | rfl <;> exact ⟨rfl, rfl⟩
  refine zs_iload_n (n := 1) dX16_addAct_0 rfl rfl ?_
  refine zs_i2l (n := 2) dX16_addAct_1 rfl ?_
  refine zs_ldc2 (n := 5) dX16_addAct_2 ct_X16_107 rfl ?_
  refine zs_ldc2 (n := 8) dX16_addAct_5 ct_X16_109 rfl ?_
  refine zc_S (n := 11) (As := [.long mi.toInt64, .long (5 : Int64), .long (60 : Int64)]) (mc := 0) (ms := 0) dX16_addAct_8 ok_X16_in ⟨ml_X16_50, st_X16_in⟩ rfl (Nat.le_of_ble_eq_true rfl) (by simp) (by omega) (Nat.le_refl _) (Nat.le_refl _) rfl rfl (m_in (x := mi) (lo := (5 : Int32)) (hi := (60 : Int32)) rfl (by first | rfl | decide) (by first | rfl | decide)) ?_
  refine zs_if_eq (tgt := 55) (n := 14) dX16_addAct_11 (by decide) rfl (fun h => absurd h (zb1.mpr (fIn_t g1 g2))) (fun _ => ?_)
  refine zs_iload_n (n := 15) dX16_addAct_14 rfl rfl ?_
  refine zs_i2l (n := 16) dX16_addAct_15 rfl ?_
  refine zs_lconst (v := 0) (n := 17) dX16_addAct_16 (by decide) rfl ?_
  refine zs_ldc2 (n := 20) dX16_addAct_17 ct_X16_75 rfl ?_
  refine zc_S (n := 23) (As := [.long lo.toInt64, .long (0 : Int64), .long (9 : Int64)]) (mc := 0) (ms := 0) dX16_addAct_20 ok_X16_in ⟨ml_X16_50, st_X16_in⟩ rfl (Nat.le_of_ble_eq_true rfl) (by simp) (by omega) (Nat.le_refl _) (Nat.le_refl _) rfl rfl (m_in (x := lo) (lo := (0 : Int32)) (hi := (9 : Int32)) rfl (by first | rfl | decide) (by first | rfl | decide)) ?_
  refine zs_if_eq (tgt := 55) (n := 26) dX16_addAct_23 (by decide) rfl (fun h => absurd h (zb1.mpr (fIn_t g3 g4))) (fun _ => ?_)
  refine zs_iload_n (n := 27) dX16_addAct_26 rfl rfl ?_
  refine zs_i2l (n := 28) dX16_addAct_27 rfl ?_
  refine zs_lconst (v := 1) (n := 29) dX16_addAct_28 (by decide) rfl ?_
  refine zs_ldc2 (n := 32) dX16_addAct_29 ct_X16_75 rfl ?_
  refine zc_S (n := 35) (As := [.long sk.toInt64, .long (1 : Int64), .long (9 : Int64)]) (mc := 0) (ms := 0) dX16_addAct_32 ok_X16_in ⟨ml_X16_50, st_X16_in⟩ rfl (Nat.le_of_ble_eq_true rfl) (by simp) (by omega) (Nat.le_refl _) (Nat.le_refl _) rfl rfl (m_in (x := sk) (lo := (1 : Int32)) (hi := (9 : Int32)) rfl (by first | rfl | decide) (by first | rfl | decide)) ?_
  refine zs_if_eq (tgt := 55) (n := 38) dX16_addAct_35 (by decide) rfl (fun h => absurd h (zb1.mpr (fIn_t g5 g6))) (fun _ => ?_)
  refine zs_iload (n := 40) dX16_addAct_38 rfl rfl ?_
  refine zs_i2l (n := 41) dX16_addAct_40 rfl ?_
  refine zs_lconst (v := 1) (n := 42) dX16_addAct_41 (by decide) rfl ?_
  refine zs_ldc2 (n := 45) dX16_addAct_42 ct_X16_75 rfl ?_
  refine zc_S (n := 48) (As := [.long li.toInt64, .long (1 : Int64), .long (9 : Int64)]) (mc := 0) (ms := 0) dX16_addAct_45 ok_X16_in ⟨ml_X16_50, st_X16_in⟩ rfl (Nat.le_of_ble_eq_true rfl) (by simp) (by omega) (Nat.le_refl _) (Nat.le_refl _) rfl rfl (m_in (x := li) (lo := (1 : Int32)) (hi := (9 : Int32)) rfl (by first | rfl | decide) (by first | rfl | decide)) ?_
  refine zs_if_eq (tgt := 55) (n := 51) dX16_addAct_48 (by decide) rfl (fun h => absurd h (zb1.mpr (fIn_t g7 g8))) (fun _ => ?_)
  refine zs_iconst (v := 1) (n := 52) dX16_addAct_51 (by decide) rfl ?_
  refine zs_goto (tgt := 56) dX16_addAct_52 (by decide) ?_
  refine zs_istore (n := 58) dX16_addAct_56 (by decide) rfl ?_
  refine zs_aload_n (n := 59) dX16_addAct_58 rfl rfl ?_
  refine zs_iload (n := 61) dX16_addAct_59 rfl rfl ?_
  refine zs_if_ne (tgt := 68) (n := 64) dX16_addAct_61 (by decide) rfl (fun _ => ?_) (fun h => absurd h (by decide))
  refine zs_aload_n (n := 69) dX16_addAct_68 rfl rfl ?_
  refine zs_getr (b := (Λ 1017)) (n := 72) dX16_addAct_69 gf_X16_16 (hR.kd (lvM h4 (by omega))) (hR.pt (lvM h4 (by omega)) rfl (by decide)) rfl ?_
  refine zc_size (c := sc S 1001) (n := 75) dX16_addAct_72 ml_X16_46 (hR.lA' h4) (by simp) (by omega) rfl ?_
  refine zs_bipush (v := 8) (n := 77) dX16_addAct_75 (by decide) rfl ?_
  refine zs_icmp_ne (tgt := 84) (n := 80) dX16_addAct_77 (by decide) rfl (fun _ => ?_) (fun h => absurd h (fun h9 => by have := (nI_eq (b := 8) (by omega) (by decide)).mp h9; omega))
  refine zs_iconst (v := 0) (n := 85) dX16_addAct_84 (by decide) rfl ?_
  refine zw_i (r := 1001) (n := 88) dX16_addAct_85 pf_X16_addAct_43 hR (lvM h4 (by omega)) (hR.kd (lvM h4 (by omega))) ⟨rfl, rfl⟩ (by decide) rfl ?_
  intro M hR hv
  refine zs_aload_n (n := 89) dX16_addAct_88 rfl rfl ?_
  refine zs_getv (x := (0 : Int32)) (n := 92) dX16_addAct_89 gf_X16_43 (hR.kd (lvM h4 (by omega))) (hR.iv (lvM h4 (by omega)) (by decide) (by decide)) rfl ?_
  refine zs_if_le (tgt := 97) (n := 95) dX16_addAct_92 (by decide) rfl (fun _ => ?_) (fun h => absurd (by decide) h)
  refine zs_aload_n (n := 98) dX16_addAct_97 rfl rfl ?_
  refine zs_getr (b := (Λ 1017)) (n := 101) dX16_addAct_98 gf_X16_16 (hR.kd (lvM h4 (by omega))) (hR.pt (lvM h4 (by omega)) rfl (by decide)) rfl ?_
  refine zh_new (M0 := M) (N := 8) (nc1 := 1) (ns1 := 10) (n := 104) (1140 + sc S 1001) dX16_addAct_101 nc_X16_111 (zPic.nil (Λ := Λ)) rfl (by decide) rfl (by omega) (by omega) ?_
  have hR0 := hR
  intro q M hP
  have hR := hR0.grow (M' := M) (fun _ _ => rfl) ⟨rfl, rfl⟩ (fun _ _ _ => rfl) hP.1
  refine zs_dup (n := 105) dX16_addAct_104 rfl rfl ?_
  refine zs_iload_n (n := 106) dX16_addAct_105 rfl rfl ?_
  refine zs_iload_n (n := 107) dX16_addAct_106 rfl rfl ?_
  refine zs_iload_n (n := 108) dX16_addAct_107 rfl rfl ?_
  refine zs_iload (n := 110) dX16_addAct_108 rfl rfl ?_
  refine zs_iload (n := 112) dX16_addAct_110 rfl rfl ?_
  refine zs_aload_n (n := 113) dX16_addAct_112 rfl rfl ?_
  refine zs_getr (b := (Λ 1017)) (n := 116) dX16_addAct_113 gf_X16_16 (hR.kd (lvM h4 (by omega))) (hR.pt (lvM h4 (by omega)) rfl (by decide)) rfl ?_
  refine zc_size8 (c := sc S 1001) (n := 119) dX16_addAct_116 ml_X16_46 (hR.lA' h4) (Nat.le_of_ble_eq_true rfl) (by omega) rfl ?_
  refine zg_I (n := 122) (As := [.int mi, .int lo, .int sk, .int li, .int fi, .int (nI (sc S 1001))]) (mc := 0) (ms := 0) (nc1 := 1) (ns1 := 10) dX16_addAct_119 ok_X12_init ⟨ml_X16_113, im_X12_init, rfl, rfl⟩ rfl (Nat.le_of_ble_eq_true rfl) (by simp) (by omega) (by omega) (by omega) rfl rfl (h_X12_init (r0 := (1140 + sc S 1001)) u1_at hP qNa kNa hs) ?_
  clear hR
  intro M hP
  have hb := hR0.bnd
  refine zw_putm (r := 1017) (r0 := (1140 + sc S 1001)) (V0 := (fun k => if k = 551 then nI (sc S 1001) else if k = 548 then fi else if k = 547 then li else if k = 546 then sk else if k = 545 then lo else if k = 544 then mi else 0)) (c' := (cset (sc S) 1001 (sc S 1001 + 1))) (nc1 := 0) (ns1 := 0) (n := 125) rfl dX16_addAct_122 ml_X16_80 hR0 hP (lvM h4 (by omega)) rfl (by show sc S 1001 < 10; omega) rfl (hb.up (r := 1017) (by unfold zlr; omega) (by show sc S 1001 + 1 ≤ 8; omega)) rfl (zlv_no hb (Or.inr (Or.inr (Or.inl ⟨_, rfl, Nat.le_refl _, hn⟩)))) (by omega) (qIn (qIn (qIn (qIn (qIn (qIn qNa)))))) ((kIn (kIn (kIn (kIn (kIn (kIn kNa)))))).trans (zki_Am hn).symm) ⟨17, _, (zki_Am hn), rfl, co_X12, by decide⟩ (fun k h1 h2 => ?_) (fun j => ?_) (fun s hs hns => zlvAm_new hb hs hns) ⟨show cset (sc S) 1001 (sc S 1001 + 1) 1003 = sc S 1003 from cset_ne (by decide), show cset (sc S) 1001 (sc S 1001 + 1) 6 = sc S 6 from cset_ne (by decide)⟩ (by simp) (by omega) (by omega) (by omega) rfl ?_
  · simp [u1, u2]
  · simp [u1]
  intro Λ M hR hS hΛ
  have e1 := hS.2.1
  rw [← e1]
  have hR : zRp Z Λ (fAddActM S mi lo sk li fi) M := hR
  have hcn : sc (fAddActM S mi lo sk li fi) 1001 = sc S 1001 + 1 := (cset_at : cset (sc S) 1001 (sc S 1001 + 1) 1001 = _)
  refine zs_pop (n := 126) dX16_addAct_125 rfl rfl ?_
  refine zs_aload_n (n := 127) dX16_addAct_126 rfl rfl ?_
  refine zs_getr (b := (Λ 1017)) (n := 130) dX16_addAct_127 gf_X16_16 (hR.kd (lvM h4 (by omega))) (hR.pt (lvM h4 (by omega)) rfl (by decide)) rfl ?_
  refine zc_size (c := sc (fAddActM S mi lo sk li fi) 1001) (n := 133) dX16_addAct_130 ml_X16_46 (hR.lA' h4) (by simp) (by omega) rfl ?_
  rw [hcn]
  refine zs_iconst (v := 1) (n := 134) dX16_addAct_133 (by decide) rfl ?_
  refine zs_isub (n := 135) dX16_addAct_134 rfl ?_
  rw [show nI (sc S 1001 + 1) - (1 : Int32) = nI (sc S 1001) from nI_pred _]
  refine zs_ireturn dX16_addAct_135 ⟨_, rfl, rfl⟩ ?_
  exact hQ _ _ hR hS
def fAddVisitM (S : zSt) (i : Nat) (q : Int32) : zSt := ((cset (sc S) 1002 (sc S 1002 + 1)), u1 (u2 (sV S) 1001 672 0) (1150 + sc S 1002) (fun k => if k = 641 then q else if k = 640 then nI i else if k = 642 then 45 else 0), u1 (sW S) (1150 + sc S 1002) (fun _ => 0), sT S, sP S)
theorem k_addVisit_1 {p x : Int32} (hR : zRp Z Λ S M) (h4 : sc S 4 = 1) (hx9 : ¬ (¬ p < 0 ∧ ¬ nI (sc S 1000) ≤ p)) : zG Z l 2 mth_X16_addVisit [.ref (Λ 1001), .int p, .int x] M 0 0 (some (.int 0)) ((zRp Z Λ (mT S 1))) := by
  intro Q hQ
  have hb1 : sc S 1000 ≤ 6 := hR.bnd.2.1.1
  show zX Z l 2 mth_X16_addVisit 0 [(0, .ref (Λ 1001)), (1, .int p), (2, .int x)] [] M 0 0 Q
  refine zs_aload_n (n := 1) dX16_addVisit_0 rfl rfl ?_
  refine zs_aload_n (n := 2) dX16_addVisit_1 rfl rfl ?_
  refine zs_iload_n (n := 3) dX16_addVisit_2 rfl rfl ?_
  refine zc_V (n := 6) (As := [.int p]) (ci := 21) (mc := 0) (ms := 0) dX16_addVisit_3 ok_X16_isPitch ⟨ml_X16_84, im_X16_isPitch, sl_X16_isPitch⟩ rfl (hR.kd (lvM h4 (by omega))) rfl (Nat.le_of_ble_eq_true rfl) (by simp) (by omega) (Nat.le_refl _) (Nat.le_refl _) rfl rfl (k_isPitch hR h4) ?_
  refine zs_if_ne (tgt := 13) (n := 9) dX16_addVisit_6 (by decide) rfl (fun h => absurd (zb0.mpr (fIn_no (by omega) hx9)) h) (fun _ => ?_)
  refine zs_iconst (v := 1) (n := 10) dX16_addVisit_9 (by decide) rfl ?_
  refine zs_goto (tgt := 55) dX16_addVisit_10 (by decide) ?_
  refine zw_i (r := 1001) (n := 58) dX16_addVisit_55 pf_X16_addVisit_43 hR (lvM h4 (by omega)) (hR.kd (lvM h4 (by omega))) ⟨rfl, rfl⟩ (by decide) rfl ?_
  intro M hR hv
  refine zs_aload_n (n := 59) dX16_addVisit_58 rfl rfl ?_
  refine zs_getv (x := (1 : Int32)) (n := 62) dX16_addVisit_59 gf_X16_43 (hR.kd (lvM h4 (by omega))) (hR.iv (lvM h4 (by omega)) (by decide) (by decide)) rfl ?_
  refine zs_if_le (tgt := 67) (n := 65) dX16_addVisit_62 (by decide) rfl (fun h => absurd h (by decide)) (fun _ => ?_)
  refine zs_iconst (v := 0) (n := 66) dX16_addVisit_65 (by decide) rfl ?_
  refine zs_ireturn dX16_addVisit_66 ⟨_, rfl, rfl⟩ ?_
  exact hQ _ hR
theorem k_addVisit_2 {i : Nat} {x : Int32} (hR : zRp Z Λ S M) (h4 : sc S 4 = 1) (hi : i < sc S 1000) (hx9 : x < 600 ∨ ¬ x ≤ 1199) : zG Z l 2 mth_X16_addVisit [.ref (Λ 1001), .int (nI i), .int x] M 0 0 (some (.int 0)) ((zRp Z Λ (mT S 2))) := by
  intro Q hQ
  have hb1 : sc S 1000 ≤ 6 := hR.bnd.2.1.1
  show zX Z l 2 mth_X16_addVisit 0 [(0, .ref (Λ 1001)), (1, .int (nI i)), (2, .int x)] [] M 0 0 Q
  refine zs_aload_n (n := 1) dX16_addVisit_0 rfl rfl ?_
  refine zs_aload_n (n := 2) dX16_addVisit_1 rfl rfl ?_
  refine zs_iload_n (n := 3) dX16_addVisit_2 rfl rfl ?_
  refine zc_V (n := 6) (As := [.int (nI i)]) (ci := 21) (mc := 0) (ms := 0) dX16_addVisit_3 ok_X16_isPitch ⟨ml_X16_84, im_X16_isPitch, sl_X16_isPitch⟩ rfl (hR.kd (lvM h4 (by omega))) rfl (Nat.le_of_ble_eq_true rfl) (by simp) (by omega) (Nat.le_refl _) (Nat.le_refl _) rfl rfl (k_isPitch hR h4) ?_
  refine zs_if_ne (tgt := 13) (n := 9) dX16_addVisit_6 (by decide) rfl (fun _ => ?_) (fun h => absurd h (zb1.mpr (fIn_ix hi (by omega))))
  refine zs_iload_n (n := 14) dX16_addVisit_13 rfl rfl ?_
  refine zs_i2l (n := 15) dX16_addVisit_14 rfl ?_
  refine zs_ldc2 (n := 18) dX16_addVisit_15 ct_X16_92 rfl ?_
  refine zs_ldc2 (n := 21) dX16_addVisit_18 ct_X16_102 rfl ?_
  refine zc_S (n := 24) (As := [.long x.toInt64, .long (600 : Int64), .long (1199 : Int64)]) (mc := 0) (ms := 0) dX16_addVisit_21 ok_X16_in ⟨ml_X16_50, st_X16_in⟩ rfl (Nat.le_of_ble_eq_true rfl) (by simp) (by omega) (Nat.le_refl _) (Nat.le_refl _) rfl rfl (m_in (x := x) (lo := (600 : Int32)) (hi := (1199 : Int32)) rfl (by first | rfl | decide) (by first | rfl | decide)) ?_
  refine zs_if_ne (tgt := 31) (n := 27) dX16_addVisit_24 (by decide) rfl (fun h => absurd (zb0.mpr (fIn_f hx9)) h) (fun _ => ?_)
  refine zs_iconst (v := 2) (n := 28) dX16_addVisit_27 (by decide) rfl ?_
  refine zs_goto (tgt := 55) dX16_addVisit_28 (by decide) ?_
  refine zw_i (r := 1001) (n := 58) dX16_addVisit_55 pf_X16_addVisit_43 hR (lvM h4 (by omega)) (hR.kd (lvM h4 (by omega))) ⟨rfl, rfl⟩ (by decide) rfl ?_
  intro M hR hv
  refine zs_aload_n (n := 59) dX16_addVisit_58 rfl rfl ?_
  refine zs_getv (x := (2 : Int32)) (n := 62) dX16_addVisit_59 gf_X16_43 (hR.kd (lvM h4 (by omega))) (hR.iv (lvM h4 (by omega)) (by decide) (by decide)) rfl ?_
  refine zs_if_le (tgt := 67) (n := 65) dX16_addVisit_62 (by decide) rfl (fun h => absurd h (by decide)) (fun _ => ?_)
  refine zs_iconst (v := 0) (n := 66) dX16_addVisit_65 (by decide) rfl ?_
  refine zs_ireturn dX16_addVisit_66 ⟨_, rfl, rfl⟩ ?_
  exact hQ _ hR
theorem k_addVisit_3 {i : Nat} {x : Int32} (hR : zRp Z Λ S M) (h4 : sc S 4 = 1) (hi : i < sc S 1000) (g1 : ¬ x < 600) (g2 : x ≤ 1199) (hn : sc S 1002 = 6) : zG Z l 2 mth_X16_addVisit [.ref (Λ 1001), .int (nI i), .int x] M 0 0 (some (.int 0)) ((zRp Z Λ (mT S 3))) := by
  intro Q hQ
  have hb1 : sc S 1000 ≤ 6 := hR.bnd.2.1.1
  show zX Z l 2 mth_X16_addVisit 0 [(0, .ref (Λ 1001)), (1, .int (nI i)), (2, .int x)] [] M 0 0 Q
  refine zs_aload_n (n := 1) dX16_addVisit_0 rfl rfl ?_
  refine zs_aload_n (n := 2) dX16_addVisit_1 rfl rfl ?_
  refine zs_iload_n (n := 3) dX16_addVisit_2 rfl rfl ?_
  refine zc_V (n := 6) (As := [.int (nI i)]) (ci := 21) (mc := 0) (ms := 0) dX16_addVisit_3 ok_X16_isPitch ⟨ml_X16_84, im_X16_isPitch, sl_X16_isPitch⟩ rfl (hR.kd (lvM h4 (by omega))) rfl (Nat.le_of_ble_eq_true rfl) (by simp) (by omega) (Nat.le_refl _) (Nat.le_refl _) rfl rfl (k_isPitch hR h4) ?_
  refine zs_if_ne (tgt := 13) (n := 9) dX16_addVisit_6 (by decide) rfl (fun _ => ?_) (fun h => absurd h (zb1.mpr (fIn_ix hi (by omega))))
  refine zs_iload_n (n := 14) dX16_addVisit_13 rfl rfl ?_
  refine zs_i2l (n := 15) dX16_addVisit_14 rfl ?_
  refine zs_ldc2 (n := 18) dX16_addVisit_15 ct_X16_92 rfl ?_
  refine zs_ldc2 (n := 21) dX16_addVisit_18 ct_X16_102 rfl ?_
  refine zc_S (n := 24) (As := [.long x.toInt64, .long (600 : Int64), .long (1199 : Int64)]) (mc := 0) (ms := 0) dX16_addVisit_21 ok_X16_in ⟨ml_X16_50, st_X16_in⟩ rfl (Nat.le_of_ble_eq_true rfl) (by simp) (by omega) (Nat.le_refl _) (Nat.le_refl _) rfl rfl (m_in (x := x) (lo := (600 : Int32)) (hi := (1199 : Int32)) rfl (by first | rfl | decide) (by first | rfl | decide)) ?_
  refine zs_if_ne (tgt := 31) (n := 27) dX16_addVisit_24 (by decide) rfl (fun _ => ?_) (fun h => absurd h (zb1.mpr (fIn_t g1 g2)))
  refine zs_aload_n (n := 32) dX16_addVisit_31 rfl rfl ?_
  refine zs_getr (b := (Λ 1019)) (n := 35) dX16_addVisit_32 gf_X16_19 (hR.kd (lvM h4 (by omega))) (hR.pt (lvM h4 (by omega)) rfl (by decide)) rfl ?_
  refine zc_size (c := sc S 1002) (n := 38) dX16_addVisit_35 ml_X16_46 (hR.lV' h4) (by simp) (by omega) rfl ?_
  refine zs_bipush (v := 6) (n := 40) dX16_addVisit_38 (by decide) rfl ?_
  refine zs_icmp_eq (tgt := 50) (n := 43) dX16_addVisit_40 (by decide) rfl (fun _ => ?_) (fun h => absurd (by rw [hn]; rfl) h)
  refine zs_iconst (v := 3) (n := 51) dX16_addVisit_50 (by decide) rfl ?_
  refine zs_goto (tgt := 55) dX16_addVisit_51 (by decide) ?_
  refine zw_i (r := 1001) (n := 58) dX16_addVisit_55 pf_X16_addVisit_43 hR (lvM h4 (by omega)) (hR.kd (lvM h4 (by omega))) ⟨rfl, rfl⟩ (by decide) rfl ?_
  intro M hR hv
  refine zs_aload_n (n := 59) dX16_addVisit_58 rfl rfl ?_
  refine zs_getv (x := (3 : Int32)) (n := 62) dX16_addVisit_59 gf_X16_43 (hR.kd (lvM h4 (by omega))) (hR.iv (lvM h4 (by omega)) (by decide) (by decide)) rfl ?_
  refine zs_if_le (tgt := 67) (n := 65) dX16_addVisit_62 (by decide) rfl (fun h => absurd h (by decide)) (fun _ => ?_)
  refine zs_iconst (v := 0) (n := 66) dX16_addVisit_65 (by decide) rfl ?_
  refine zs_ireturn dX16_addVisit_66 ⟨_, rfl, rfl⟩ ?_
  exact hQ _ hR
theorem k_addVisit_4 {i : Nat} {x : Int32} (hR : zRp Z Λ S M) (h4 : sc S 4 = 1) (hi : i < sc S 1000) (g1 : ¬ x < 600) (g2 : x ≤ 1199) (hn : sc S 1002 < 6) (hp : ¬ sV S 1001 680 = 0) : zG Z l 2 mth_X16_addVisit [.ref (Λ 1001), .int (nI i), .int x] M 0 0 (some (.int 0)) ((zRp Z Λ (mT S 3))) := by
  intro Q hQ
  have hb1 : sc S 1000 ≤ 6 := hR.bnd.2.1.1
  show zX Z l 2 mth_X16_addVisit 0 [(0, .ref (Λ 1001)), (1, .int (nI i)), (2, .int x)] [] M 0 0 Q
  refine zs_aload_n (n := 1) dX16_addVisit_0 rfl rfl ?_
  refine zs_aload_n (n := 2) dX16_addVisit_1 rfl rfl ?_
  refine zs_iload_n (n := 3) dX16_addVisit_2 rfl rfl ?_
  refine zc_V (n := 6) (As := [.int (nI i)]) (ci := 21) (mc := 0) (ms := 0) dX16_addVisit_3 ok_X16_isPitch ⟨ml_X16_84, im_X16_isPitch, sl_X16_isPitch⟩ rfl (hR.kd (lvM h4 (by omega))) rfl (Nat.le_of_ble_eq_true rfl) (by simp) (by omega) (Nat.le_refl _) (Nat.le_refl _) rfl rfl (k_isPitch hR h4) ?_
  refine zs_if_ne (tgt := 13) (n := 9) dX16_addVisit_6 (by decide) rfl (fun _ => ?_) (fun h => absurd h (zb1.mpr (fIn_ix hi (by omega))))
  refine zs_iload_n (n := 14) dX16_addVisit_13 rfl rfl ?_
  refine zs_i2l (n := 15) dX16_addVisit_14 rfl ?_
  refine zs_ldc2 (n := 18) dX16_addVisit_15 ct_X16_92 rfl ?_
  refine zs_ldc2 (n := 21) dX16_addVisit_18 ct_X16_102 rfl ?_
  refine zc_S (n := 24) (As := [.long x.toInt64, .long (600 : Int64), .long (1199 : Int64)]) (mc := 0) (ms := 0) dX16_addVisit_21 ok_X16_in ⟨ml_X16_50, st_X16_in⟩ rfl (Nat.le_of_ble_eq_true rfl) (by simp) (by omega) (Nat.le_refl _) (Nat.le_refl _) rfl rfl (m_in (x := x) (lo := (600 : Int32)) (hi := (1199 : Int32)) rfl (by first | rfl | decide) (by first | rfl | decide)) ?_
  refine zs_if_ne (tgt := 31) (n := 27) dX16_addVisit_24 (by decide) rfl (fun _ => ?_) (fun h => absurd h (zb1.mpr (fIn_t g1 g2)))
  refine zs_aload_n (n := 32) dX16_addVisit_31 rfl rfl ?_
  refine zs_getr (b := (Λ 1019)) (n := 35) dX16_addVisit_32 gf_X16_19 (hR.kd (lvM h4 (by omega))) (hR.pt (lvM h4 (by omega)) rfl (by decide)) rfl ?_
  refine zc_size (c := sc S 1002) (n := 38) dX16_addVisit_35 ml_X16_46 (hR.lV' h4) (by simp) (by omega) rfl ?_
  refine zs_bipush (v := 6) (n := 40) dX16_addVisit_38 (by decide) rfl ?_
  refine zs_icmp_eq (tgt := 50) (n := 43) dX16_addVisit_40 (by decide) rfl (fun h => absurd h (fun h9 => by have := (nI_eq (b := 6) (by omega) (by decide)).mp h9; omega)) (fun _ => ?_)
  refine zs_aload_n (n := 44) dX16_addVisit_43 rfl rfl ?_
  refine zs_getv (x := (sV S 1001 680)) (n := 47) dX16_addVisit_44 gf_X16_161 (hR.kd (lvM h4 (by omega))) (hR.iv (lvM h4 (by omega)) (by decide) (by decide)) rfl ?_
  refine zs_if_eq (tgt := 54) (n := 50) dX16_addVisit_47 (by decide) rfl (fun h => absurd h hp) (fun _ => ?_)
  refine zs_iconst (v := 3) (n := 51) dX16_addVisit_50 (by decide) rfl ?_
  refine zs_goto (tgt := 55) dX16_addVisit_51 (by decide) ?_
  refine zw_i (r := 1001) (n := 58) dX16_addVisit_55 pf_X16_addVisit_43 hR (lvM h4 (by omega)) (hR.kd (lvM h4 (by omega))) ⟨rfl, rfl⟩ (by decide) rfl ?_
  intro M hR hv
  refine zs_aload_n (n := 59) dX16_addVisit_58 rfl rfl ?_
  refine zs_getv (x := (3 : Int32)) (n := 62) dX16_addVisit_59 gf_X16_43 (hR.kd (lvM h4 (by omega))) (hR.iv (lvM h4 (by omega)) (by decide) (by decide)) rfl ?_
  refine zs_if_le (tgt := 67) (n := 65) dX16_addVisit_62 (by decide) rfl (fun h => absurd h (by decide)) (fun _ => ?_)
  refine zs_iconst (v := 0) (n := 66) dX16_addVisit_65 (by decide) rfl ?_
  refine zs_ireturn dX16_addVisit_66 ⟨_, rfl, rfl⟩ ?_
  exact hQ _ hR
theorem k_addVisit {i : Nat} {x : Int32} (hR : zRp Z Λ S M) (h4 : sc S 4 = 1) (hi : i < sc S 1000) (g1 : ¬ x < 600) (g2 : x ≤ 1199) (hn : sc S 1002 < 6) (hp : sV S 1001 680 = 0) {Q : zO → zMem → Prop} (hQ : ∀ Λ' M', zRp Z Λ' (fAddVisitM S i x) M' → zSame Λ Λ' → Q (.inl (some (.int (nI (sc S 1002 + 1))))) M') : zX Z l 5 mth_X16_addVisit 0 (lv_args 0 [.ref (Λ 1001), .int (nI i), .int x]) [] M 2 14 Q := by
  show zX Z l 5 mth_X16_addVisit 0 [(0, .ref (Λ 1001)), (1, .int (nI i)), (2, .int x)] [] M 2 14 Q
  have hb1 : sc S 1000 ≤ 6 := hR.bnd.2.1.1
  refine zs_aload_n (n := 1) dX16_addVisit_0 rfl rfl ?_
  refine zs_aload_n (n := 2) dX16_addVisit_1 rfl rfl ?_
  refine zs_iload_n (n := 3) dX16_addVisit_2 rfl rfl ?_
  refine zc_V (n := 6) (As := [.int (nI i)]) (ci := 21) (mc := 0) (ms := 0) dX16_addVisit_3 ok_X16_isPitch ⟨ml_X16_84, im_X16_isPitch, sl_X16_isPitch⟩ rfl (hR.kd (lvM h4 (by omega))) rfl (Nat.le_of_ble_eq_true rfl) (by simp) (by omega) (Nat.le_refl _) (Nat.le_refl _) rfl rfl (k_isPitch hR h4) ?_
  refine zs_if_ne (tgt := 13) (n := 9) dX16_addVisit_6 (by decide) rfl (fun _ => ?_) (fun h => absurd h (zb1.mpr (fIn_ix hi (by omega))))
  refine zs_iload_n (n := 14) dX16_addVisit_13 rfl rfl ?_
  refine zs_i2l (n := 15) dX16_addVisit_14 rfl ?_
  refine zs_ldc2 (n := 18) dX16_addVisit_15 ct_X16_92 rfl ?_
  refine zs_ldc2 (n := 21) dX16_addVisit_18 ct_X16_102 rfl ?_
  refine zc_S (n := 24) (As := [.long x.toInt64, .long (600 : Int64), .long (1199 : Int64)]) (mc := 0) (ms := 0) dX16_addVisit_21 ok_X16_in ⟨ml_X16_50, st_X16_in⟩ rfl (Nat.le_of_ble_eq_true rfl) (by simp) (by omega) (Nat.le_refl _) (Nat.le_refl _) rfl rfl (m_in (x := x) (lo := (600 : Int32)) (hi := (1199 : Int32)) rfl (by first | rfl | decide) (by first | rfl | decide)) ?_
  refine zs_if_ne (tgt := 31) (n := 27) dX16_addVisit_24 (by decide) rfl (fun _ => ?_) (fun h => absurd h (zb1.mpr (fIn_t g1 g2)))
  refine zs_aload_n (n := 32) dX16_addVisit_31 rfl rfl ?_
  refine zs_getr (b := (Λ 1019)) (n := 35) dX16_addVisit_32 gf_X16_19 (hR.kd (lvM h4 (by omega))) (hR.pt (lvM h4 (by omega)) rfl (by decide)) rfl ?_
  refine zc_size (c := sc S 1002) (n := 38) dX16_addVisit_35 ml_X16_46 (hR.lV' h4) (by simp) (by omega) rfl ?_
  refine zs_bipush (v := 6) (n := 40) dX16_addVisit_38 (by decide) rfl ?_
  refine zs_icmp_eq (tgt := 50) (n := 43) dX16_addVisit_40 (by decide) rfl (fun h => absurd h (fun h9 => by have := (nI_eq (b := 6) (by omega) (by decide)).mp h9; omega)) (fun _ => ?_)
  refine zs_aload_n (n := 44) dX16_addVisit_43 rfl rfl ?_
  refine zs_getv (x := (sV S 1001 680)) (n := 47) dX16_addVisit_44 gf_X16_161 (hR.kd (lvM h4 (by omega))) (hR.iv (lvM h4 (by omega)) (by decide) (by decide)) rfl ?_
  refine zs_if_eq (tgt := 54) (n := 50) dX16_addVisit_47 (by decide) rfl (fun _ => ?_) (fun h => absurd hp h)
  refine zs_iconst (v := 0) (n := 55) dX16_addVisit_54 (by decide) rfl ?_
  refine zw_i (r := 1001) (n := 58) dX16_addVisit_55 pf_X16_addVisit_43 hR (lvM h4 (by omega)) (hR.kd (lvM h4 (by omega))) ⟨rfl, rfl⟩ (by decide) rfl ?_
  intro M hR hv
  refine zs_aload_n (n := 59) dX16_addVisit_58 rfl rfl ?_
  refine zs_getv (x := (0 : Int32)) (n := 62) dX16_addVisit_59 gf_X16_43 (hR.kd (lvM h4 (by omega))) (hR.iv (lvM h4 (by omega)) (by decide) (by decide)) rfl ?_
  refine zs_if_le (tgt := 67) (n := 65) dX16_addVisit_62 (by decide) rfl (fun _ => ?_) (fun h => absurd (by decide) h)
  refine zs_aload_n (n := 68) dX16_addVisit_67 rfl rfl ?_
  refine zs_getr (b := (Λ 1019)) (n := 71) dX16_addVisit_68 gf_X16_19 (hR.kd (lvM h4 (by omega))) (hR.pt (lvM h4 (by omega)) rfl (by decide)) rfl ?_
  refine zh_new (M0 := M) (N := 4) (nc1 := 1) (ns1 := 10) (n := 74) (1150 + sc S 1002) dX16_addVisit_71 nc_X16_200 (zPic.nil (Λ := Λ)) rfl (by decide) rfl (by omega) (by omega) ?_
  have hR0 := hR
  intro q M hP
  have hR := hR0.grow (M' := M) (fun _ _ => rfl) ⟨rfl, rfl⟩ (fun _ _ _ => rfl) hP.1
  refine zs_dup (n := 75) dX16_addVisit_74 rfl rfl ?_
  refine zs_iload_n (n := 76) dX16_addVisit_75 rfl rfl ?_
  refine zs_iload_n (n := 77) dX16_addVisit_76 rfl rfl ?_
  refine zg_I (n := 80) (As := [.int (nI i), .int x]) (mc := 0) (ms := 0) (nc1 := 1) (ns1 := 10) dX16_addVisit_77 ok_X15_init ⟨ml_X16_202, im_X15_init, rfl, rfl⟩ rfl (Nat.le_of_ble_eq_true rfl) (by simp) (by omega) (by omega) (by omega) rfl rfl (h_X15_init (r0 := (1150 + sc S 1002)) u1_at hP qNa kNa) ?_
  clear hR
  intro M hP
  have hb := hR0.bnd
  refine zw_putm (r := 1019) (r0 := (1150 + sc S 1002)) (V0 := (fun k => if k = 641 then x else if k = 640 then nI i else if k = 642 then 45 else 0)) (c' := (cset (sc S) 1002 (sc S 1002 + 1))) (nc1 := 0) (ns1 := 0) (n := 83) rfl dX16_addVisit_80 ml_X16_80 hR0 hP (lvM h4 (by omega)) rfl (by show sc S 1002 < 10; omega) rfl (hb.up (r := 1019) (by unfold zlr; omega) (by show sc S 1002 + 1 ≤ 6; omega)) rfl (zlv_no hb (Or.inr (Or.inr (Or.inr (Or.inl ⟨_, rfl, Nat.le_refl _, hn⟩))))) (by omega) (qIn (qIn (qIn qNa))) ((kIn (kIn (kIn kNa))).trans (zki_Vm hn).symm) ⟨20, _, (zki_Vm hn), rfl, co_X15, by decide⟩ (fun k h1 h2 => ?_) (fun j => ?_) (fun s hs hns => zlvVm_new hb hs hns) ⟨show cset (sc S) 1002 (sc S 1002 + 1) 1003 = sc S 1003 from cset_ne (by decide), show cset (sc S) 1002 (sc S 1002 + 1) 6 = sc S 6 from cset_ne (by decide)⟩ (by simp) (by omega) (by omega) (by omega) rfl ?_
  · simp [u1, u2]
  · simp [u1]
  intro Λ M hR hS hΛ
  have e1 := hS.2.1
  rw [← e1]
  have hR : zRp Z Λ (fAddVisitM S i x) M := hR
  have hcn : sc (fAddVisitM S i x) 1002 = sc S 1002 + 1 := (cset_at : cset (sc S) 1002 (sc S 1002 + 1) 1002 = _)
  refine zs_pop (n := 84) dX16_addVisit_83 rfl rfl ?_
  refine zs_aload_n (n := 85) dX16_addVisit_84 rfl rfl ?_
  refine zs_getr (b := (Λ 1019)) (n := 88) dX16_addVisit_85 gf_X16_19 (hR.kd (lvM h4 (by omega))) (hR.pt (lvM h4 (by omega)) rfl (by decide)) rfl ?_
  refine zc_size (c := sc (fAddVisitM S i x) 1002) (n := 91) dX16_addVisit_88 ml_X16_46 (hR.lV' h4) (by simp) (by omega) rfl ?_
  rw [hcn]
  refine zs_ireturn dX16_addVisit_91 ⟨_, rfl, rfl⟩ ?_
  exact hQ _ _ hR hS
def fAddTurnM (S : zSt) (i a : Nat) : zSt := ((cset (sc S) (1010 + i) (sc S (1010 + i) + 1)), u1 (u2 (u2 (sV S) 1001 672 0) 1001 672 0) (1160 + 8 * i + sc S (1010 + i)) (fun k => if k = 608 then nI a else if k = 609 then -1 else 0), u1 (sW S) (1160 + 8 * i + sc S (1010 + i)) (fun _ => 0), sT S, sP S)
/-- an act has a turn elsewhere -/
def fElsP (S : zSt) (a : Int32) (p : Int32) (i n : Nat) (b : Bool) : Bool := zit (fun k b => b || (!decide (nI i = p) && decide (sV S (1160 + 8 * i + k) 608 = a))) n b
def fElsM (S : zSt) (a p : Int32) (n : Nat) : Bool := zit (fun i b => fElsP S a p i (sc S (1010 + i)) b) n false
theorem k_addTurn_1 {p q : Int32} (hR : zRp Z Λ S M) (h4 : sc S 4 = 1) (hx9 : ¬ (¬ p < 0 ∧ ¬ nI (sc S 1000) ≤ p)) : zG Z l 2 mth_X16_addTurn [.ref (Λ 1001), .int p, .int q] M 0 0 (some (.int 0)) ((zRp Z Λ (mT S 1))) := by
  intro Q hQ
  have hb1 : sc S 1000 ≤ 6 := hR.bnd.2.1.1
  have hb2 : sc S 1001 ≤ 8 := hR.bnd.2.1.2.1
  show zX Z l 2 mth_X16_addTurn 0 [(0, .ref (Λ 1001)), (1, .int p), (2, .int q)] [] M 0 0 Q
  refine zs_aload_n (n := 1) dX16_addTurn_0 rfl rfl ?_
  refine zs_aload_n (n := 2) dX16_addTurn_1 rfl rfl ?_
  refine zs_iload_n (n := 3) dX16_addTurn_2 rfl rfl ?_
  refine zc_V (n := 6) (As := [.int p]) (ci := 21) (mc := 0) (ms := 0) dX16_addTurn_3 ok_X16_isPitch ⟨ml_X16_84, im_X16_isPitch, sl_X16_isPitch⟩ rfl (hR.kd (lvM h4 (by omega))) rfl (Nat.le_of_ble_eq_true rfl) (by simp) (by omega) (Nat.le_refl _) (Nat.le_refl _) rfl rfl (k_isPitch hR h4) ?_
  refine zs_if_eq (tgt := 17) (n := 9) dX16_addTurn_6 (by decide) rfl (fun _ => ?_) (fun h => absurd (zb0.mpr (fIn_no (by omega) hx9)) h)
  refine zs_iconst (v := 1) (n := 18) dX16_addTurn_17 (by decide) rfl ?_
  refine zs_goto (tgt := 33) dX16_addTurn_18 (by decide) ?_
  refine zw_i (r := 1001) (n := 36) dX16_addTurn_33 pf_X16_addTurn_43 hR (lvM h4 (by omega)) (hR.kd (lvM h4 (by omega))) ⟨rfl, rfl⟩ (by decide) rfl ?_
  intro M hR hv
  refine zs_aload_n (n := 37) dX16_addTurn_36 rfl rfl ?_
  refine zs_getv (x := (1 : Int32)) (n := 40) dX16_addTurn_37 gf_X16_43 (hR.kd (lvM h4 (by omega))) (hR.iv (lvM h4 (by omega)) (by decide) (by decide)) rfl ?_
  refine zs_if_le (tgt := 45) (n := 43) dX16_addTurn_40 (by decide) rfl (fun h => absurd h (by decide)) (fun _ => ?_)
  refine zs_iconst (v := 0) (n := 44) dX16_addTurn_43 (by decide) rfl ?_
  refine zs_ireturn dX16_addTurn_44 ⟨_, rfl, rfl⟩ ?_
  exact hQ _ hR
theorem k_addTurn_2 {i : Nat} {q : Int32} (hR : zRp Z Λ S M) (h4 : sc S 4 = 1) (hi : i < sc S 1000) (hx9 : ¬ (¬ q < 0 ∧ ¬ nI (sc S 1001) ≤ q)) : zG Z l 2 mth_X16_addTurn [.ref (Λ 1001), .int (nI i), .int q] M 0 0 (some (.int 0)) ((zRp Z Λ (mT S 1))) := by
  intro Q hQ
  have hb1 : sc S 1000 ≤ 6 := hR.bnd.2.1.1
  have hb2 : sc S 1001 ≤ 8 := hR.bnd.2.1.2.1
  show zX Z l 2 mth_X16_addTurn 0 [(0, .ref (Λ 1001)), (1, .int (nI i)), (2, .int q)] [] M 0 0 Q
  refine zs_aload_n (n := 1) dX16_addTurn_0 rfl rfl ?_
  refine zs_aload_n (n := 2) dX16_addTurn_1 rfl rfl ?_
  refine zs_iload_n (n := 3) dX16_addTurn_2 rfl rfl ?_
  refine zc_V (n := 6) (As := [.int (nI i)]) (ci := 21) (mc := 0) (ms := 0) dX16_addTurn_3 ok_X16_isPitch ⟨ml_X16_84, im_X16_isPitch, sl_X16_isPitch⟩ rfl (hR.kd (lvM h4 (by omega))) rfl (Nat.le_of_ble_eq_true rfl) (by simp) (by omega) (Nat.le_refl _) (Nat.le_refl _) rfl rfl (k_isPitch hR h4) ?_
  refine zs_if_eq (tgt := 17) (n := 9) dX16_addTurn_6 (by decide) rfl (fun h => absurd h (zb1.mpr (fIn_ix hi (by omega)))) (fun _ => ?_)
  refine zs_aload_n (n := 10) dX16_addTurn_9 rfl rfl ?_
  refine zs_iload_n (n := 11) dX16_addTurn_10 rfl rfl ?_
  refine zc_V (n := 14) (As := [.int q]) (ci := 21) (mc := 0) (ms := 0) dX16_addTurn_11 ok_X16_isAct ⟨ml_X16_116, im_X16_isAct, sl_X16_isAct⟩ rfl (hR.kd (lvM h4 (by omega))) rfl (Nat.le_of_ble_eq_true rfl) (by simp) (by omega) (Nat.le_refl _) (Nat.le_refl _) rfl rfl (k_isAct hR h4) ?_
  refine zs_if_ne (tgt := 21) (n := 17) dX16_addTurn_14 (by decide) rfl (fun h => absurd (zb0.mpr (fIn_no (by omega) hx9)) h) (fun _ => ?_)
  refine zs_iconst (v := 1) (n := 18) dX16_addTurn_17 (by decide) rfl ?_
  refine zs_goto (tgt := 33) dX16_addTurn_18 (by decide) ?_
  refine zw_i (r := 1001) (n := 36) dX16_addTurn_33 pf_X16_addTurn_43 hR (lvM h4 (by omega)) (hR.kd (lvM h4 (by omega))) ⟨rfl, rfl⟩ (by decide) rfl ?_
  intro M hR hv
  refine zs_aload_n (n := 37) dX16_addTurn_36 rfl rfl ?_
  refine zs_getv (x := (1 : Int32)) (n := 40) dX16_addTurn_37 gf_X16_43 (hR.kd (lvM h4 (by omega))) (hR.iv (lvM h4 (by omega)) (by decide) (by decide)) rfl ?_
  refine zs_if_le (tgt := 45) (n := 43) dX16_addTurn_40 (by decide) rfl (fun h => absurd h (by decide)) (fun _ => ?_)
  refine zs_iconst (v := 0) (n := 44) dX16_addTurn_43 (by decide) rfl ?_
  refine zs_ireturn dX16_addTurn_44 ⟨_, rfl, rfl⟩ ?_
  exact hQ _ hR
theorem k_addTurn_3 {i a : Nat} (hR : zRp Z Λ S M) (h4 : sc S 4 = 1) (hi : i < sc S 1000) (ha : a < sc S 1001) (hp : ¬ sV S 1001 680 = 0) : zG Z l 2 mth_X16_addTurn [.ref (Λ 1001), .int (nI i), .int (nI a)] M 0 0 (some (.int 0)) ((zRp Z Λ (mT S 2))) := by
  intro Q hQ
  have hb1 : sc S 1000 ≤ 6 := hR.bnd.2.1.1
  have hb2 : sc S 1001 ≤ 8 := hR.bnd.2.1.2.1
  show zX Z l 2 mth_X16_addTurn 0 [(0, .ref (Λ 1001)), (1, .int (nI i)), (2, .int (nI a))] [] M 0 0 Q
  refine zs_aload_n (n := 1) dX16_addTurn_0 rfl rfl ?_
  refine zs_aload_n (n := 2) dX16_addTurn_1 rfl rfl ?_
  refine zs_iload_n (n := 3) dX16_addTurn_2 rfl rfl ?_
  refine zc_V (n := 6) (As := [.int (nI i)]) (ci := 21) (mc := 0) (ms := 0) dX16_addTurn_3 ok_X16_isPitch ⟨ml_X16_84, im_X16_isPitch, sl_X16_isPitch⟩ rfl (hR.kd (lvM h4 (by omega))) rfl (Nat.le_of_ble_eq_true rfl) (by simp) (by omega) (Nat.le_refl _) (Nat.le_refl _) rfl rfl (k_isPitch hR h4) ?_
  refine zs_if_eq (tgt := 17) (n := 9) dX16_addTurn_6 (by decide) rfl (fun h => absurd h (zb1.mpr (fIn_ix hi (by omega)))) (fun _ => ?_)
  refine zs_aload_n (n := 10) dX16_addTurn_9 rfl rfl ?_
  refine zs_iload_n (n := 11) dX16_addTurn_10 rfl rfl ?_
  refine zc_V (n := 14) (As := [.int (nI a)]) (ci := 21) (mc := 0) (ms := 0) dX16_addTurn_11 ok_X16_isAct ⟨ml_X16_116, im_X16_isAct, sl_X16_isAct⟩ rfl (hR.kd (lvM h4 (by omega))) rfl (Nat.le_of_ble_eq_true rfl) (by simp) (by omega) (Nat.le_refl _) (Nat.le_refl _) rfl rfl (k_isAct hR h4) ?_
  refine zs_if_ne (tgt := 21) (n := 17) dX16_addTurn_14 (by decide) rfl (fun _ => ?_) (fun h => absurd h (zb1.mpr (fIn_ix ha (by omega))))
  refine zs_aload_n (n := 22) dX16_addTurn_21 rfl rfl ?_
  refine zs_getv (x := (sV S 1001 680)) (n := 25) dX16_addTurn_22 gf_X16_161 (hR.kd (lvM h4 (by omega))) (hR.iv (lvM h4 (by omega)) (by decide) (by decide)) rfl ?_
  refine zs_if_eq (tgt := 32) (n := 28) dX16_addTurn_25 (by decide) rfl (fun h => absurd h hp) (fun _ => ?_)
  refine zs_iconst (v := 2) (n := 29) dX16_addTurn_28 (by decide) rfl ?_
  refine zs_goto (tgt := 33) dX16_addTurn_29 (by decide) ?_
  refine zw_i (r := 1001) (n := 36) dX16_addTurn_33 pf_X16_addTurn_43 hR (lvM h4 (by omega)) (hR.kd (lvM h4 (by omega))) ⟨rfl, rfl⟩ (by decide) rfl ?_
  intro M hR hv
  refine zs_aload_n (n := 37) dX16_addTurn_36 rfl rfl ?_
  refine zs_getv (x := (2 : Int32)) (n := 40) dX16_addTurn_37 gf_X16_43 (hR.kd (lvM h4 (by omega))) (hR.iv (lvM h4 (by omega)) (by decide) (by decide)) rfl ?_
  refine zs_if_le (tgt := 45) (n := 43) dX16_addTurn_40 (by decide) rfl (fun h => absurd h (by decide)) (fun _ => ?_)
  refine zs_iconst (v := 0) (n := 44) dX16_addTurn_43 (by decide) rfl ?_
  refine zs_ireturn dX16_addTurn_44 ⟨_, rfl, rfl⟩ ?_
  exact hQ _ hR
theorem k_addTurn_4 {i a : Nat} (hR : zRp Z Λ S M) (h4 : sc S 4 = 1) (hi : i < sc S 1000) (ha : a < sc S 1001) (hp : sV S 1001 680 = 0) (hel : fElsM S (nI a) (nI i) (sc S 1000) = true) : zG Z l 3 mth_X16_addTurn [.ref (Λ 1001), .int (nI i), .int (nI a)] M 8 42 (some (.int 0)) ((zRp Z Λ (mT (mT S 0) 3))) := by
  intro Q hQ
  have hb1 : sc S 1000 ≤ 6 := hR.bnd.2.1.1
  have hb2 : sc S 1001 ≤ 8 := hR.bnd.2.1.2.1
  show zX Z l 3 mth_X16_addTurn 0 [(0, .ref (Λ 1001)), (1, .int (nI i)), (2, .int (nI a))] [] M 8 42 Q
  refine zs_aload_n (n := 1) dX16_addTurn_0 rfl rfl ?_
  refine zs_aload_n (n := 2) dX16_addTurn_1 rfl rfl ?_
  refine zs_iload_n (n := 3) dX16_addTurn_2 rfl rfl ?_
  refine zc_V (n := 6) (As := [.int (nI i)]) (ci := 21) (mc := 0) (ms := 0) dX16_addTurn_3 ok_X16_isPitch ⟨ml_X16_84, im_X16_isPitch, sl_X16_isPitch⟩ rfl (hR.kd (lvM h4 (by omega))) rfl (Nat.le_of_ble_eq_true rfl) (by simp) (by omega) (Nat.le_refl _) (Nat.le_refl _) rfl rfl (k_isPitch hR h4) ?_
  refine zs_if_eq (tgt := 17) (n := 9) dX16_addTurn_6 (by decide) rfl (fun h => absurd h (zb1.mpr (fIn_ix hi (by omega)))) (fun _ => ?_)
  refine zs_aload_n (n := 10) dX16_addTurn_9 rfl rfl ?_
  refine zs_iload_n (n := 11) dX16_addTurn_10 rfl rfl ?_
  refine zc_V (n := 14) (As := [.int (nI a)]) (ci := 21) (mc := 0) (ms := 0) dX16_addTurn_11 ok_X16_isAct ⟨ml_X16_116, im_X16_isAct, sl_X16_isAct⟩ rfl (hR.kd (lvM h4 (by omega))) rfl (Nat.le_of_ble_eq_true rfl) (by simp) (by omega) (Nat.le_refl _) (Nat.le_refl _) rfl rfl (k_isAct hR h4) ?_
  refine zs_if_ne (tgt := 21) (n := 17) dX16_addTurn_14 (by decide) rfl (fun _ => ?_) (fun h => absurd h (zb1.mpr (fIn_ix ha (by omega))))
  refine zs_aload_n (n := 22) dX16_addTurn_21 rfl rfl ?_
  refine zs_getv (x := (sV S 1001 680)) (n := 25) dX16_addTurn_22 gf_X16_161 (hR.kd (lvM h4 (by omega))) (hR.iv (lvM h4 (by omega)) (by decide) (by decide)) rfl ?_
  refine zs_if_eq (tgt := 32) (n := 28) dX16_addTurn_25 (by decide) rfl (fun _ => ?_) (fun h => absurd hp h)
  refine zs_iconst (v := 0) (n := 33) dX16_addTurn_32 (by decide) rfl ?_
  refine zw_i (r := 1001) (n := 36) dX16_addTurn_33 pf_X16_addTurn_43 hR (lvM h4 (by omega)) (hR.kd (lvM h4 (by omega))) ⟨rfl, rfl⟩ (by decide) rfl ?_
  intro M hR hv
  refine zs_aload_n (n := 37) dX16_addTurn_36 rfl rfl ?_
  refine zs_getv (x := (0 : Int32)) (n := 40) dX16_addTurn_37 gf_X16_43 (hR.kd (lvM h4 (by omega))) (hR.iv (lvM h4 (by omega)) (by decide) (by decide)) rfl ?_
  refine zs_if_le (tgt := 45) (n := 43) dX16_addTurn_40 (by decide) rfl (fun _ => ?_) (fun h => absurd (by decide) h)
  refine zs_iconst (v := 0) (n := 46) dX16_addTurn_45 (by decide) rfl ?_
  refine zs_istore_n (n := 47) dX16_addTurn_46 (by decide) rfl ?_
  refine zs_iconst (v := 0) (n := 48) dX16_addTurn_47 (by decide) rfl ?_
  refine zX.more (nc' := 2 + (6 - 0)) (ns' := 18 + (24 - 4 * 0)) ?_ (by omega) (by omega)
  refine zs_istore (n := 50) dX16_addTurn_48 (by decide) rfl ?_
  refine zX.sub (L' := [(0, .ref (Λ 1001)), (1, .int (nI i)), (2, .int (nI a)), (3, .int (zb (fElsM S (nI a) (nI i) 0))), (4, .int (nI 0))]) ⟨rfl, rfl, rfl, rfl, rfl, trivial⟩ ?_
  refine zloop (n := sc S 1000) (X := fun j => ∀ M, zRp Z Λ (mT S 0) M → zX Z l 3 mth_X16_addTurn 50 [(0, .ref (Λ 1001)), (1, .int (nI i)), (2, .int (nI a)), (3, .int (zb (fElsM S (nI a) (nI i) j))), (4, .int (nI j))] [] M (2 + (6 - j)) (18 + (24 - 4 * j)) Q) (fun j hj ih => ?_) ?_ 0 (Nat.zero_le _) M ?_
  · intro M hR
    have hb9 : sc S 1000 ≤ 6 := hR.bnd.2.1.1
    refine zs_iload (n := 52) dX16_addTurn_50 rfl rfl ?_
    refine zs_aload_n (n := 53) dX16_addTurn_52 rfl rfl ?_
    refine zs_getr (b := (Λ 1015)) (n := 56) dX16_addTurn_53 gf_X16_10 (hR.kd (lvM h4 (by omega))) (hR.pt (lvM h4 (by omega)) rfl (by decide)) rfl ?_
    refine zc_size (c := sc S 1000) (n := 59) dX16_addTurn_56 ml_X16_46 (hR.lP' h4) (by simp) (by omega) rfl ?_
    refine zs_icmp_ge (tgt := 138) (n := 62) dX16_addTurn_59 (by decide) rfl (fun h => absurd h (nI_ge hj (by omega))) (fun _ => ?_)
    refine zs_aload_n (n := 63) dX16_addTurn_62 rfl rfl ?_
    refine zs_getr (b := (Λ 1015)) (n := 66) dX16_addTurn_63 gf_X16_10 (hR.kd (lvM h4 (by omega))) (hR.pt (lvM h4 (by omega)) rfl (by decide)) rfl ?_
    refine zs_iload (n := 68) dX16_addTurn_66 rfl rfl ?_
    refine zc_getb (c := sc S 1000) (b := (Λ (1100 + j))) (n := 71) dX16_addTurn_68 ml_X16_94 (hR.lP' h4) hj rfl (by simp) (by omega) rfl ?_
    refine zs_castS (ci := 18) (n := 74) dX16_addTurn_71 rfl cl_X16_68 (hR.kP' hj) rfl ?_
    refine zs_getr (b := (Λ (1120 + j))) (n := 77) dX16_addTurn_74 gf_X16_164 (hR.kP' hj) (hR.pT' hj) rfl ?_
    refine zi_new (r := (1120 + j)) (nc1 := 2 + (6 - (j + 1))) (ns1 := 18 + (24 - 4 * (j + 1))) (n := 80) 3000 dX16_addTurn_77 rfl hR (lvT' hj) (zki_T' (by omega)) (by decide) (by simp) (by omega) (by omega) (by omega) rfl ?_
    intro q77 M hR1 hI77 hq77 hag77
    have hR := hR1
    refine zs_astore (n := 82) dX16_addTurn_80 (by decide) rfl ?_
    refine zX.sub (L' := [(0, .ref (Λ 1001)), (1, .int (nI i)), (2, .int (nI a)), (3, .int (zb (fElsP S (nI a) (nI i) j 0 (fElsM S (nI a) (nI i) j)))), (4, .int (nI j)), (5, .ref q77)]) ⟨rfl, rfl, rfl, rfl, rfl, rfl, trivial⟩ ?_
    refine zloop (n := sc S (1010 + j)) (X := fun k => ∀ M, zRp Z Λ (mT S 0) M ∧ zIt M q77 (Λ (1120 + j)) k 3000 → zX Z l 3 mth_X16_addTurn 82 [(0, .ref (Λ 1001)), (1, .int (nI i)), (2, .int (nI a)), (3, .int (zb (fElsP S (nI a) (nI i) j k (fElsM S (nI a) (nI i) j)))), (4, .int (nI j)), (5, .ref q77)] [] M (2 + (6 - (j + 1))) (18 + (24 - 4 * (j + 1))) Q) (fun k hk ihk => ?_) ?_ 0 (Nat.zero_le _) M ?_
    · intro M hR9
      obtain ⟨hR, hI77⟩ := hR9
      have hb982 : sc S (1010 + j) ≤ _ := hR.bnd.2.2 j
      refine zs_aload (n := 84) dX16_addTurn_82 rfl rfl ?_
      refine zi_has (r := (1120 + j)) (j := k) (n := 89) dX16_addTurn_84 rfl hR (lvT' hj) (zki_T' (by omega)) hI77 (by rw [show zct (sc (sc S, u2 (sV S) 1001 672 (0 : Int32), sW S, sT S, sP S)) (1120 + j) = sc S (1010 + j) from zct_T' (by omega)]; omega) (by simp) (by omega) rfl ?_
      rw [show zct (sc (sc S, u2 (sV S) 1001 672 (0 : Int32), sW S, sT S, sP S)) (1120 + j) = sc S (1010 + j) from zct_T' (by omega)]
      refine zs_if_eq (tgt := 132) (n := 92) dX16_addTurn_89 (by decide) rfl (fun h => absurd h (zb1.mpr (by rw [decide_eq_false (by omega)]; rfl))) (fun _ => ?_)
      refine zs_aload (n := 94) dX16_addTurn_92 rfl rfl ?_
      refine zi_next (r := (1120 + j)) (j := k) (b := (Λ (1160 + 8 * j + k))) (n := 99) dX16_addTurn_94 rfl hR (lvT' hj) (zki_T' (by omega)) hI77 (by rw [show zct (sc (sc S, u2 (sV S) 1001 672 (0 : Int32), sW S, sT S, sP S)) (1120 + j) = sc S (1010 + j) from zct_T' (by omega)]; exact hk) (by rw [zbs_T' (by omega)]) (by simp) (by omega) rfl ?_
      intro M hR1 hI77n hag94
      have hI77 := hI77n
      have hR := hR1
      refine zs_castS (ci := 19) (n := 102) dX16_addTurn_99 rfl cl_X16_167 (hR.kK' hj hk) rfl ?_
      refine zs_astore (n := 104) dX16_addTurn_102 (by decide) rfl ?_
      refine zs_iload_n (n := 105) dX16_addTurn_104 rfl rfl ?_
      refine zs_if_ne (tgt := 123) (n := 108) dX16_addTurn_105 (by decide) rfl (fun h105 => ?_) (fun h105 => ?_)
      · refine zs_iconst (v := 1) (n := 124) dX16_addTurn_123 (by decide) rfl ?_
        refine zs_goto (tgt := 128) dX16_addTurn_124 (by decide) ?_
        refine zs_istore_n (n := 129) dX16_addTurn_128 (by decide) rfl ?_
        refine zs_goto (tgt := 82) dX16_addTurn_129 (by decide) ?_
        refine zX.sub (L' := [(0, .ref (Λ 1001)), (1, .int (nI i)), (2, .int (nI a)), (3, .int (zb (fElsP S (nI a) (nI i) j (k + 1) (fElsM S (nI a) (nI i) j)))), (4, .int (nI j)), (5, .ref q77)]) ⟨rfl, rfl, rfl, (show some (Value.int (1 : Int32)) = some (Value.int (zb (fElsP S (nI a) (nI i) j (k + 1) (fElsM S (nI a) (nI i) j)))) from congrArg (fun z => some (Value.int z)) (by rw [show fElsP S (nI a) (nI i) j (k + 1) (fElsM S (nI a) (nI i) j) = (fElsP S (nI a) (nI i) j k (fElsM S (nI a) (nI i) j) || (!decide (nI j = (nI i)) && decide (sV S (1160 + 8 * j + k) 608 = (nI a)))) from rfl]; cases h9 : fElsP S (nI a) (nI i) j k (fElsM S (nI a) (nI i) j) <;> simp_all [zb])), rfl, rfl, trivial⟩ ?_
        exact ihk M ⟨hR, hI77⟩
      · refine zs_iload (n := 110) dX16_addTurn_108 rfl rfl ?_
        refine zs_iload_n (n := 111) dX16_addTurn_110 rfl rfl ?_
        refine zs_icmp_eq (tgt := 127) (n := 114) dX16_addTurn_111 (by decide) rfl (fun h111 => ?_) (fun h111 => ?_)
        · refine zs_iconst (v := 0) (n := 128) dX16_addTurn_127 (by decide) rfl ?_
          refine zs_istore_n (n := 129) dX16_addTurn_128 (by decide) rfl ?_
          refine zs_goto (tgt := 82) dX16_addTurn_129 (by decide) ?_
          refine zX.sub (L' := [(0, .ref (Λ 1001)), (1, .int (nI i)), (2, .int (nI a)), (3, .int (zb (fElsP S (nI a) (nI i) j (k + 1) (fElsM S (nI a) (nI i) j)))), (4, .int (nI j)), (5, .ref q77)]) ⟨rfl, rfl, rfl, (show some (Value.int (0 : Int32)) = some (Value.int (zb (fElsP S (nI a) (nI i) j (k + 1) (fElsM S (nI a) (nI i) j)))) from congrArg (fun z => some (Value.int z)) (by rw [show fElsP S (nI a) (nI i) j (k + 1) (fElsM S (nI a) (nI i) j) = (fElsP S (nI a) (nI i) j k (fElsM S (nI a) (nI i) j) || (!decide (nI j = (nI i)) && decide (sV S (1160 + 8 * j + k) 608 = (nI a)))) from rfl]; cases h9 : fElsP S (nI a) (nI i) j k (fElsM S (nI a) (nI i) j) <;> simp_all [zb])), rfl, rfl, trivial⟩ ?_
          exact ihk M ⟨hR, hI77⟩
        · refine zs_aload (n := 116) dX16_addTurn_114 rfl rfl ?_
          refine zs_getv (x := (sV S (1160 + 8 * j + k) 608)) (n := 119) dX16_addTurn_116 gf_X16_169 (hR.kK' hj hk) (hR.iv (lvK' hj hk) (by decide) (by decide)) rfl ?_
          refine zs_iload_n (n := 120) dX16_addTurn_119 rfl rfl ?_
          refine zs_icmp_ne (tgt := 127) (n := 123) dX16_addTurn_120 (by decide) rfl (fun h120 => ?_) (fun h120 => ?_)
          · refine zs_iconst (v := 0) (n := 128) dX16_addTurn_127 (by decide) rfl ?_
            refine zs_istore_n (n := 129) dX16_addTurn_128 (by decide) rfl ?_
            refine zs_goto (tgt := 82) dX16_addTurn_129 (by decide) ?_
            refine zX.sub (L' := [(0, .ref (Λ 1001)), (1, .int (nI i)), (2, .int (nI a)), (3, .int (zb (fElsP S (nI a) (nI i) j (k + 1) (fElsM S (nI a) (nI i) j)))), (4, .int (nI j)), (5, .ref q77)]) ⟨rfl, rfl, rfl, (show some (Value.int (0 : Int32)) = some (Value.int (zb (fElsP S (nI a) (nI i) j (k + 1) (fElsM S (nI a) (nI i) j)))) from congrArg (fun z => some (Value.int z)) (by rw [show fElsP S (nI a) (nI i) j (k + 1) (fElsM S (nI a) (nI i) j) = (fElsP S (nI a) (nI i) j k (fElsM S (nI a) (nI i) j) || (!decide (nI j = (nI i)) && decide (sV S (1160 + 8 * j + k) 608 = (nI a)))) from rfl]; cases h9 : fElsP S (nI a) (nI i) j k (fElsM S (nI a) (nI i) j) <;> simp_all [zb])), rfl, rfl, trivial⟩ ?_
            exact ihk M ⟨hR, hI77⟩
          · refine zs_iconst (v := 1) (n := 124) dX16_addTurn_123 (by decide) rfl ?_
            refine zs_goto (tgt := 128) dX16_addTurn_124 (by decide) ?_
            refine zs_istore_n (n := 129) dX16_addTurn_128 (by decide) rfl ?_
            refine zs_goto (tgt := 82) dX16_addTurn_129 (by decide) ?_
            refine zX.sub (L' := [(0, .ref (Λ 1001)), (1, .int (nI i)), (2, .int (nI a)), (3, .int (zb (fElsP S (nI a) (nI i) j (k + 1) (fElsM S (nI a) (nI i) j)))), (4, .int (nI j)), (5, .ref q77)]) ⟨rfl, rfl, rfl, (show some (Value.int (1 : Int32)) = some (Value.int (zb (fElsP S (nI a) (nI i) j (k + 1) (fElsM S (nI a) (nI i) j)))) from congrArg (fun z => some (Value.int z)) (by rw [show fElsP S (nI a) (nI i) j (k + 1) (fElsM S (nI a) (nI i) j) = (fElsP S (nI a) (nI i) j k (fElsM S (nI a) (nI i) j) || (!decide (nI j = (nI i)) && decide (sV S (1160 + 8 * j + k) 608 = (nI a)))) from rfl]; cases h9 : fElsP S (nI a) (nI i) j k (fElsM S (nI a) (nI i) j) <;> simp_all [zb])), rfl, rfl, trivial⟩ ?_
            exact ihk M ⟨hR, hI77⟩
    · intro M hR9
      obtain ⟨hR, hI77⟩ := hR9
      have hb982 : sc S (1010 + j) ≤ _ := hR.bnd.2.2 j
      refine zs_aload (n := 84) dX16_addTurn_82 rfl rfl ?_
      refine zi_has (r := (1120 + j)) (j := sc S (1010 + j)) (n := 89) dX16_addTurn_84 rfl hR (lvT' hj) (zki_T' (by omega)) hI77 (by rw [show zct (sc (sc S, u2 (sV S) 1001 672 (0 : Int32), sW S, sT S, sP S)) (1120 + j) = sc S (1010 + j) from zct_T' (by omega)]; omega) (by simp) (by omega) rfl ?_
      rw [show zct (sc (sc S, u2 (sV S) 1001 672 (0 : Int32), sW S, sT S, sP S)) (1120 + j) = sc S (1010 + j) from zct_T' (by omega)]
      refine zs_if_eq (tgt := 132) (n := 92) dX16_addTurn_89 (by decide) rfl (fun _ => ?_) (fun h => absurd (zb0.mpr (by rw [decide_eq_true rfl]; rfl)) h)
      refine zs_iinc (v := (nI (j + 1))) (n := 135) dX16_addTurn_132 rfl (nI_1 _) (by decide) rfl ?_
      refine zs_goto (tgt := 50) dX16_addTurn_135 (by decide) ?_
      refine zX.sub (L' := [(0, .ref (Λ 1001)), (1, .int (nI i)), (2, .int (nI a)), (3, .int (zb (fElsM S (nI a) (nI i) (j + 1)))), (4, .int (nI (j + 1)))]) ⟨rfl, rfl, rfl, rfl, rfl, trivial⟩ ?_
      exact ih M hR
    · exact ⟨hR, hI77⟩
  · intro M hR
    have hb9 : sc S 1000 ≤ 6 := hR.bnd.2.1.1
    refine zs_iload (n := 52) dX16_addTurn_50 rfl rfl ?_
    refine zs_aload_n (n := 53) dX16_addTurn_52 rfl rfl ?_
    refine zs_getr (b := (Λ 1015)) (n := 56) dX16_addTurn_53 gf_X16_10 (hR.kd (lvM h4 (by omega))) (hR.pt (lvM h4 (by omega)) rfl (by decide)) rfl ?_
    refine zc_size (c := sc S 1000) (n := 59) dX16_addTurn_56 ml_X16_46 (hR.lP' h4) (by simp) (by omega) rfl ?_
    refine zs_icmp_ge (tgt := 138) (n := 62) dX16_addTurn_59 (by decide) rfl (fun _ => ?_) (fun h => absurd (nI_le (Nat.le_refl _) (by omega)) h)
    refine zs_aload_n (n := 139) dX16_addTurn_138 rfl rfl ?_
    refine zs_getr (b := (Λ 1015)) (n := 142) dX16_addTurn_139 gf_X16_10 (hR.kd (lvM h4 (by omega))) (hR.pt (lvM h4 (by omega)) rfl (by decide)) rfl ?_
    refine zs_iload_n (n := 143) dX16_addTurn_142 rfl rfl ?_
    refine zc_getb (c := sc S 1000) (b := (Λ (1100 + i))) (n := 146) dX16_addTurn_143 ml_X16_94 (hR.lP' h4) hi rfl (by simp) (by omega) rfl ?_
    refine zs_castS (ci := 18) (n := 149) dX16_addTurn_146 rfl cl_X16_68 (hR.kP' hi) rfl ?_
    refine zs_getr (b := (Λ (1120 + i))) (n := 152) dX16_addTurn_149 gf_X16_164 (hR.kP' hi) (hR.pT' hi) rfl ?_
    refine zs_astore (n := 154) dX16_addTurn_152 (by decide) rfl ?_
    refine zs_aload_n (n := 155) dX16_addTurn_154 rfl rfl ?_
    refine zs_iload_n (n := 156) dX16_addTurn_155 rfl rfl ?_
    refine zs_if_ne (tgt := 169) (n := 159) dX16_addTurn_156 (by decide) rfl (fun _ => ?_) (fun h => absurd h (zb1.mpr hel))
    refine zs_iconst (v := 3) (n := 170) dX16_addTurn_169 (by decide) rfl ?_
    refine zs_goto (tgt := 174) dX16_addTurn_170 (by decide) ?_
    refine zw_i (r := 1001) (n := 177) dX16_addTurn_174 pf_X16_addTurn_43 hR (lvM h4 (by omega)) (hR.kd (lvM h4 (by omega))) ⟨rfl, rfl⟩ (by decide) rfl ?_
    intro M hR hv
    refine zs_aload_n (n := 178) dX16_addTurn_177 rfl rfl ?_
    refine zs_getv (x := (3 : Int32)) (n := 181) dX16_addTurn_178 gf_X16_43 (hR.kd (lvM h4 (by omega))) (hR.iv (lvM h4 (by omega)) (by decide) (by decide)) rfl ?_
    refine zs_if_le (tgt := 186) (n := 184) dX16_addTurn_181 (by decide) rfl (fun h => absurd h (by decide)) (fun _ => ?_)
    refine zs_iconst (v := 0) (n := 185) dX16_addTurn_184 (by decide) rfl ?_
    refine zs_ireturn dX16_addTurn_185 ⟨_, rfl, rfl⟩ ?_
    exact hQ _ hR
  · exact hR
theorem k_addTurn_5 {i a : Nat} (hR : zRp Z Λ S M) (h4 : sc S 4 = 1) (hi : i < sc S 1000) (ha : a < sc S 1001) (hp : sV S 1001 680 = 0) (hel : fElsM S (nI a) (nI i) (sc S 1000) = false) (hn : sc S (1010 + i) = 8) : zG Z l 3 mth_X16_addTurn [.ref (Λ 1001), .int (nI i), .int (nI a)] M 8 42 (some (.int 0)) ((zRp Z Λ (mT (mT S 0) 3))) := by
  intro Q hQ
  have hb1 : sc S 1000 ≤ 6 := hR.bnd.2.1.1
  have hb2 : sc S 1001 ≤ 8 := hR.bnd.2.1.2.1
  show zX Z l 3 mth_X16_addTurn 0 [(0, .ref (Λ 1001)), (1, .int (nI i)), (2, .int (nI a))] [] M 8 42 Q
  refine zs_aload_n (n := 1) dX16_addTurn_0 rfl rfl ?_
  refine zs_aload_n (n := 2) dX16_addTurn_1 rfl rfl ?_
  refine zs_iload_n (n := 3) dX16_addTurn_2 rfl rfl ?_
  refine zc_V (n := 6) (As := [.int (nI i)]) (ci := 21) (mc := 0) (ms := 0) dX16_addTurn_3 ok_X16_isPitch ⟨ml_X16_84, im_X16_isPitch, sl_X16_isPitch⟩ rfl (hR.kd (lvM h4 (by omega))) rfl (Nat.le_of_ble_eq_true rfl) (by simp) (by omega) (Nat.le_refl _) (Nat.le_refl _) rfl rfl (k_isPitch hR h4) ?_
  refine zs_if_eq (tgt := 17) (n := 9) dX16_addTurn_6 (by decide) rfl (fun h => absurd h (zb1.mpr (fIn_ix hi (by omega)))) (fun _ => ?_)
  refine zs_aload_n (n := 10) dX16_addTurn_9 rfl rfl ?_
  refine zs_iload_n (n := 11) dX16_addTurn_10 rfl rfl ?_
  refine zc_V (n := 14) (As := [.int (nI a)]) (ci := 21) (mc := 0) (ms := 0) dX16_addTurn_11 ok_X16_isAct ⟨ml_X16_116, im_X16_isAct, sl_X16_isAct⟩ rfl (hR.kd (lvM h4 (by omega))) rfl (Nat.le_of_ble_eq_true rfl) (by simp) (by omega) (Nat.le_refl _) (Nat.le_refl _) rfl rfl (k_isAct hR h4) ?_
  refine zs_if_ne (tgt := 21) (n := 17) dX16_addTurn_14 (by decide) rfl (fun _ => ?_) (fun h => absurd h (zb1.mpr (fIn_ix ha (by omega))))
  refine zs_aload_n (n := 22) dX16_addTurn_21 rfl rfl ?_
  refine zs_getv (x := (sV S 1001 680)) (n := 25) dX16_addTurn_22 gf_X16_161 (hR.kd (lvM h4 (by omega))) (hR.iv (lvM h4 (by omega)) (by decide) (by decide)) rfl ?_
  refine zs_if_eq (tgt := 32) (n := 28) dX16_addTurn_25 (by decide) rfl (fun _ => ?_) (fun h => absurd hp h)
  refine zs_iconst (v := 0) (n := 33) dX16_addTurn_32 (by decide) rfl ?_
  refine zw_i (r := 1001) (n := 36) dX16_addTurn_33 pf_X16_addTurn_43 hR (lvM h4 (by omega)) (hR.kd (lvM h4 (by omega))) ⟨rfl, rfl⟩ (by decide) rfl ?_
  intro M hR hv
  refine zs_aload_n (n := 37) dX16_addTurn_36 rfl rfl ?_
  refine zs_getv (x := (0 : Int32)) (n := 40) dX16_addTurn_37 gf_X16_43 (hR.kd (lvM h4 (by omega))) (hR.iv (lvM h4 (by omega)) (by decide) (by decide)) rfl ?_
  refine zs_if_le (tgt := 45) (n := 43) dX16_addTurn_40 (by decide) rfl (fun _ => ?_) (fun h => absurd (by decide) h)
  refine zs_iconst (v := 0) (n := 46) dX16_addTurn_45 (by decide) rfl ?_
  refine zs_istore_n (n := 47) dX16_addTurn_46 (by decide) rfl ?_
  refine zs_iconst (v := 0) (n := 48) dX16_addTurn_47 (by decide) rfl ?_
  refine zX.more (nc' := 2 + (6 - 0)) (ns' := 18 + (24 - 4 * 0)) ?_ (by omega) (by omega)
  refine zs_istore (n := 50) dX16_addTurn_48 (by decide) rfl ?_
  refine zX.sub (L' := [(0, .ref (Λ 1001)), (1, .int (nI i)), (2, .int (nI a)), (3, .int (zb (fElsM S (nI a) (nI i) 0))), (4, .int (nI 0))]) ⟨rfl, rfl, rfl, rfl, rfl, trivial⟩ ?_
  refine zloop (n := sc S 1000) (X := fun j => ∀ M, zRp Z Λ (mT S 0) M → zX Z l 3 mth_X16_addTurn 50 [(0, .ref (Λ 1001)), (1, .int (nI i)), (2, .int (nI a)), (3, .int (zb (fElsM S (nI a) (nI i) j))), (4, .int (nI j))] [] M (2 + (6 - j)) (18 + (24 - 4 * j)) Q) (fun j hj ih => ?_) ?_ 0 (Nat.zero_le _) M ?_
  · intro M hR
    have hb9 : sc S 1000 ≤ 6 := hR.bnd.2.1.1
    refine zs_iload (n := 52) dX16_addTurn_50 rfl rfl ?_
    refine zs_aload_n (n := 53) dX16_addTurn_52 rfl rfl ?_
    refine zs_getr (b := (Λ 1015)) (n := 56) dX16_addTurn_53 gf_X16_10 (hR.kd (lvM h4 (by omega))) (hR.pt (lvM h4 (by omega)) rfl (by decide)) rfl ?_
    refine zc_size (c := sc S 1000) (n := 59) dX16_addTurn_56 ml_X16_46 (hR.lP' h4) (by simp) (by omega) rfl ?_
    refine zs_icmp_ge (tgt := 138) (n := 62) dX16_addTurn_59 (by decide) rfl (fun h => absurd h (nI_ge hj (by omega))) (fun _ => ?_)
    refine zs_aload_n (n := 63) dX16_addTurn_62 rfl rfl ?_
    refine zs_getr (b := (Λ 1015)) (n := 66) dX16_addTurn_63 gf_X16_10 (hR.kd (lvM h4 (by omega))) (hR.pt (lvM h4 (by omega)) rfl (by decide)) rfl ?_
    refine zs_iload (n := 68) dX16_addTurn_66 rfl rfl ?_
    refine zc_getb (c := sc S 1000) (b := (Λ (1100 + j))) (n := 71) dX16_addTurn_68 ml_X16_94 (hR.lP' h4) hj rfl (by simp) (by omega) rfl ?_
    refine zs_castS (ci := 18) (n := 74) dX16_addTurn_71 rfl cl_X16_68 (hR.kP' hj) rfl ?_
    refine zs_getr (b := (Λ (1120 + j))) (n := 77) dX16_addTurn_74 gf_X16_164 (hR.kP' hj) (hR.pT' hj) rfl ?_
    refine zi_new (r := (1120 + j)) (nc1 := 2 + (6 - (j + 1))) (ns1 := 18 + (24 - 4 * (j + 1))) (n := 80) 3000 dX16_addTurn_77 rfl hR (lvT' hj) (zki_T' (by omega)) (by decide) (by simp) (by omega) (by omega) (by omega) rfl ?_
    intro q77 M hR1 hI77 hq77 hag77
    have hR := hR1
    refine zs_astore (n := 82) dX16_addTurn_80 (by decide) rfl ?_
    refine zX.sub (L' := [(0, .ref (Λ 1001)), (1, .int (nI i)), (2, .int (nI a)), (3, .int (zb (fElsP S (nI a) (nI i) j 0 (fElsM S (nI a) (nI i) j)))), (4, .int (nI j)), (5, .ref q77)]) ⟨rfl, rfl, rfl, rfl, rfl, rfl, trivial⟩ ?_
    refine zloop (n := sc S (1010 + j)) (X := fun k => ∀ M, zRp Z Λ (mT S 0) M ∧ zIt M q77 (Λ (1120 + j)) k 3000 → zX Z l 3 mth_X16_addTurn 82 [(0, .ref (Λ 1001)), (1, .int (nI i)), (2, .int (nI a)), (3, .int (zb (fElsP S (nI a) (nI i) j k (fElsM S (nI a) (nI i) j)))), (4, .int (nI j)), (5, .ref q77)] [] M (2 + (6 - (j + 1))) (18 + (24 - 4 * (j + 1))) Q) (fun k hk ihk => ?_) ?_ 0 (Nat.zero_le _) M ?_
    · intro M hR9
      obtain ⟨hR, hI77⟩ := hR9
      have hb982 : sc S (1010 + j) ≤ _ := hR.bnd.2.2 j
      refine zs_aload (n := 84) dX16_addTurn_82 rfl rfl ?_
      refine zi_has (r := (1120 + j)) (j := k) (n := 89) dX16_addTurn_84 rfl hR (lvT' hj) (zki_T' (by omega)) hI77 (by rw [show zct (sc (sc S, u2 (sV S) 1001 672 (0 : Int32), sW S, sT S, sP S)) (1120 + j) = sc S (1010 + j) from zct_T' (by omega)]; omega) (by simp) (by omega) rfl ?_
      rw [show zct (sc (sc S, u2 (sV S) 1001 672 (0 : Int32), sW S, sT S, sP S)) (1120 + j) = sc S (1010 + j) from zct_T' (by omega)]
      refine zs_if_eq (tgt := 132) (n := 92) dX16_addTurn_89 (by decide) rfl (fun h => absurd h (zb1.mpr (by rw [decide_eq_false (by omega)]; rfl))) (fun _ => ?_)
      refine zs_aload (n := 94) dX16_addTurn_92 rfl rfl ?_
      refine zi_next (r := (1120 + j)) (j := k) (b := (Λ (1160 + 8 * j + k))) (n := 99) dX16_addTurn_94 rfl hR (lvT' hj) (zki_T' (by omega)) hI77 (by rw [show zct (sc (sc S, u2 (sV S) 1001 672 (0 : Int32), sW S, sT S, sP S)) (1120 + j) = sc S (1010 + j) from zct_T' (by omega)]; exact hk) (by rw [zbs_T' (by omega)]) (by simp) (by omega) rfl ?_
      intro M hR1 hI77n hag94
      have hI77 := hI77n
      have hR := hR1
      refine zs_castS (ci := 19) (n := 102) dX16_addTurn_99 rfl cl_X16_167 (hR.kK' hj hk) rfl ?_
      refine zs_astore (n := 104) dX16_addTurn_102 (by decide) rfl ?_
      refine zs_iload_n (n := 105) dX16_addTurn_104 rfl rfl ?_
      refine zs_if_ne (tgt := 123) (n := 108) dX16_addTurn_105 (by decide) rfl (fun h105 => ?_) (fun h105 => ?_)
      · refine zs_iconst (v := 1) (n := 124) dX16_addTurn_123 (by decide) rfl ?_
        refine zs_goto (tgt := 128) dX16_addTurn_124 (by decide) ?_
        refine zs_istore_n (n := 129) dX16_addTurn_128 (by decide) rfl ?_
        refine zs_goto (tgt := 82) dX16_addTurn_129 (by decide) ?_
        refine zX.sub (L' := [(0, .ref (Λ 1001)), (1, .int (nI i)), (2, .int (nI a)), (3, .int (zb (fElsP S (nI a) (nI i) j (k + 1) (fElsM S (nI a) (nI i) j)))), (4, .int (nI j)), (5, .ref q77)]) ⟨rfl, rfl, rfl, (show some (Value.int (1 : Int32)) = some (Value.int (zb (fElsP S (nI a) (nI i) j (k + 1) (fElsM S (nI a) (nI i) j)))) from congrArg (fun z => some (Value.int z)) (by rw [show fElsP S (nI a) (nI i) j (k + 1) (fElsM S (nI a) (nI i) j) = (fElsP S (nI a) (nI i) j k (fElsM S (nI a) (nI i) j) || (!decide (nI j = (nI i)) && decide (sV S (1160 + 8 * j + k) 608 = (nI a)))) from rfl]; cases h9 : fElsP S (nI a) (nI i) j k (fElsM S (nI a) (nI i) j) <;> simp_all [zb])), rfl, rfl, trivial⟩ ?_
        exact ihk M ⟨hR, hI77⟩
      · refine zs_iload (n := 110) dX16_addTurn_108 rfl rfl ?_
        refine zs_iload_n (n := 111) dX16_addTurn_110 rfl rfl ?_
        refine zs_icmp_eq (tgt := 127) (n := 114) dX16_addTurn_111 (by decide) rfl (fun h111 => ?_) (fun h111 => ?_)
        · refine zs_iconst (v := 0) (n := 128) dX16_addTurn_127 (by decide) rfl ?_
          refine zs_istore_n (n := 129) dX16_addTurn_128 (by decide) rfl ?_
          refine zs_goto (tgt := 82) dX16_addTurn_129 (by decide) ?_
          refine zX.sub (L' := [(0, .ref (Λ 1001)), (1, .int (nI i)), (2, .int (nI a)), (3, .int (zb (fElsP S (nI a) (nI i) j (k + 1) (fElsM S (nI a) (nI i) j)))), (4, .int (nI j)), (5, .ref q77)]) ⟨rfl, rfl, rfl, (show some (Value.int (0 : Int32)) = some (Value.int (zb (fElsP S (nI a) (nI i) j (k + 1) (fElsM S (nI a) (nI i) j)))) from congrArg (fun z => some (Value.int z)) (by rw [show fElsP S (nI a) (nI i) j (k + 1) (fElsM S (nI a) (nI i) j) = (fElsP S (nI a) (nI i) j k (fElsM S (nI a) (nI i) j) || (!decide (nI j = (nI i)) && decide (sV S (1160 + 8 * j + k) 608 = (nI a)))) from rfl]; cases h9 : fElsP S (nI a) (nI i) j k (fElsM S (nI a) (nI i) j) <;> simp_all [zb])), rfl, rfl, trivial⟩ ?_
          exact ihk M ⟨hR, hI77⟩
        · refine zs_aload (n := 116) dX16_addTurn_114 rfl rfl ?_
          refine zs_getv (x := (sV S (1160 + 8 * j + k) 608)) (n := 119) dX16_addTurn_116 gf_X16_169 (hR.kK' hj hk) (hR.iv (lvK' hj hk) (by decide) (by decide)) rfl ?_
          refine zs_iload_n (n := 120) dX16_addTurn_119 rfl rfl ?_
          refine zs_icmp_ne (tgt := 127) (n := 123) dX16_addTurn_120 (by decide) rfl (fun h120 => ?_) (fun h120 => ?_)
          · refine zs_iconst (v := 0) (n := 128) dX16_addTurn_127 (by decide) rfl ?_
            refine zs_istore_n (n := 129) dX16_addTurn_128 (by decide) rfl ?_
            refine zs_goto (tgt := 82) dX16_addTurn_129 (by decide) ?_
            refine zX.sub (L' := [(0, .ref (Λ 1001)), (1, .int (nI i)), (2, .int (nI a)), (3, .int (zb (fElsP S (nI a) (nI i) j (k + 1) (fElsM S (nI a) (nI i) j)))), (4, .int (nI j)), (5, .ref q77)]) ⟨rfl, rfl, rfl, (show some (Value.int (0 : Int32)) = some (Value.int (zb (fElsP S (nI a) (nI i) j (k + 1) (fElsM S (nI a) (nI i) j)))) from congrArg (fun z => some (Value.int z)) (by rw [show fElsP S (nI a) (nI i) j (k + 1) (fElsM S (nI a) (nI i) j) = (fElsP S (nI a) (nI i) j k (fElsM S (nI a) (nI i) j) || (!decide (nI j = (nI i)) && decide (sV S (1160 + 8 * j + k) 608 = (nI a)))) from rfl]; cases h9 : fElsP S (nI a) (nI i) j k (fElsM S (nI a) (nI i) j) <;> simp_all [zb])), rfl, rfl, trivial⟩ ?_
            exact ihk M ⟨hR, hI77⟩
          · refine zs_iconst (v := 1) (n := 124) dX16_addTurn_123 (by decide) rfl ?_
            refine zs_goto (tgt := 128) dX16_addTurn_124 (by decide) ?_
            refine zs_istore_n (n := 129) dX16_addTurn_128 (by decide) rfl ?_
            refine zs_goto (tgt := 82) dX16_addTurn_129 (by decide) ?_
            refine zX.sub (L' := [(0, .ref (Λ 1001)), (1, .int (nI i)), (2, .int (nI a)), (3, .int (zb (fElsP S (nI a) (nI i) j (k + 1) (fElsM S (nI a) (nI i) j)))), (4, .int (nI j)), (5, .ref q77)]) ⟨rfl, rfl, rfl, (show some (Value.int (1 : Int32)) = some (Value.int (zb (fElsP S (nI a) (nI i) j (k + 1) (fElsM S (nI a) (nI i) j)))) from congrArg (fun z => some (Value.int z)) (by rw [show fElsP S (nI a) (nI i) j (k + 1) (fElsM S (nI a) (nI i) j) = (fElsP S (nI a) (nI i) j k (fElsM S (nI a) (nI i) j) || (!decide (nI j = (nI i)) && decide (sV S (1160 + 8 * j + k) 608 = (nI a)))) from rfl]; cases h9 : fElsP S (nI a) (nI i) j k (fElsM S (nI a) (nI i) j) <;> simp_all [zb])), rfl, rfl, trivial⟩ ?_
            exact ihk M ⟨hR, hI77⟩
    · intro M hR9
      obtain ⟨hR, hI77⟩ := hR9
      have hb982 : sc S (1010 + j) ≤ _ := hR.bnd.2.2 j
      refine zs_aload (n := 84) dX16_addTurn_82 rfl rfl ?_
      refine zi_has (r := (1120 + j)) (j := sc S (1010 + j)) (n := 89) dX16_addTurn_84 rfl hR (lvT' hj) (zki_T' (by omega)) hI77 (by rw [show zct (sc (sc S, u2 (sV S) 1001 672 (0 : Int32), sW S, sT S, sP S)) (1120 + j) = sc S (1010 + j) from zct_T' (by omega)]; omega) (by simp) (by omega) rfl ?_
      rw [show zct (sc (sc S, u2 (sV S) 1001 672 (0 : Int32), sW S, sT S, sP S)) (1120 + j) = sc S (1010 + j) from zct_T' (by omega)]
      refine zs_if_eq (tgt := 132) (n := 92) dX16_addTurn_89 (by decide) rfl (fun _ => ?_) (fun h => absurd (zb0.mpr (by rw [decide_eq_true rfl]; rfl)) h)
      refine zs_iinc (v := (nI (j + 1))) (n := 135) dX16_addTurn_132 rfl (nI_1 _) (by decide) rfl ?_
      refine zs_goto (tgt := 50) dX16_addTurn_135 (by decide) ?_
      refine zX.sub (L' := [(0, .ref (Λ 1001)), (1, .int (nI i)), (2, .int (nI a)), (3, .int (zb (fElsM S (nI a) (nI i) (j + 1)))), (4, .int (nI (j + 1)))]) ⟨rfl, rfl, rfl, rfl, rfl, trivial⟩ ?_
      exact ih M hR
    · exact ⟨hR, hI77⟩
  · intro M hR
    have hb9 : sc S 1000 ≤ 6 := hR.bnd.2.1.1
    refine zs_iload (n := 52) dX16_addTurn_50 rfl rfl ?_
    refine zs_aload_n (n := 53) dX16_addTurn_52 rfl rfl ?_
    refine zs_getr (b := (Λ 1015)) (n := 56) dX16_addTurn_53 gf_X16_10 (hR.kd (lvM h4 (by omega))) (hR.pt (lvM h4 (by omega)) rfl (by decide)) rfl ?_
    refine zc_size (c := sc S 1000) (n := 59) dX16_addTurn_56 ml_X16_46 (hR.lP' h4) (by simp) (by omega) rfl ?_
    refine zs_icmp_ge (tgt := 138) (n := 62) dX16_addTurn_59 (by decide) rfl (fun _ => ?_) (fun h => absurd (nI_le (Nat.le_refl _) (by omega)) h)
    refine zs_aload_n (n := 139) dX16_addTurn_138 rfl rfl ?_
    refine zs_getr (b := (Λ 1015)) (n := 142) dX16_addTurn_139 gf_X16_10 (hR.kd (lvM h4 (by omega))) (hR.pt (lvM h4 (by omega)) rfl (by decide)) rfl ?_
    refine zs_iload_n (n := 143) dX16_addTurn_142 rfl rfl ?_
    refine zc_getb (c := sc S 1000) (b := (Λ (1100 + i))) (n := 146) dX16_addTurn_143 ml_X16_94 (hR.lP' h4) hi rfl (by simp) (by omega) rfl ?_
    refine zs_castS (ci := 18) (n := 149) dX16_addTurn_146 rfl cl_X16_68 (hR.kP' hi) rfl ?_
    refine zs_getr (b := (Λ (1120 + i))) (n := 152) dX16_addTurn_149 gf_X16_164 (hR.kP' hi) (hR.pT' hi) rfl ?_
    refine zs_astore (n := 154) dX16_addTurn_152 (by decide) rfl ?_
    refine zs_aload_n (n := 155) dX16_addTurn_154 rfl rfl ?_
    refine zs_iload_n (n := 156) dX16_addTurn_155 rfl rfl ?_
    refine zs_if_ne (tgt := 169) (n := 159) dX16_addTurn_156 (by decide) rfl (fun h => absurd (zb0.mpr hel) h) (fun _ => ?_)
    refine zs_aload (n := 161) dX16_addTurn_159 rfl rfl ?_
    refine zc_size (c := sc S (1010 + i)) (n := 164) dX16_addTurn_161 ml_X16_46 (hR.lT' hi) (by simp) (by omega) rfl ?_
    refine zs_bipush (v := 8) (n := 166) dX16_addTurn_164 (by decide) rfl ?_
    refine zs_icmp_ne (tgt := 173) (n := 169) dX16_addTurn_166 (by decide) rfl (fun h => absurd (by rw [hn]; rfl) h) (fun _ => ?_)
    refine zs_iconst (v := 3) (n := 170) dX16_addTurn_169 (by decide) rfl ?_
    refine zs_goto (tgt := 174) dX16_addTurn_170 (by decide) ?_
    refine zw_i (r := 1001) (n := 177) dX16_addTurn_174 pf_X16_addTurn_43 hR (lvM h4 (by omega)) (hR.kd (lvM h4 (by omega))) ⟨rfl, rfl⟩ (by decide) rfl ?_
    intro M hR hv
    refine zs_aload_n (n := 178) dX16_addTurn_177 rfl rfl ?_
    refine zs_getv (x := (3 : Int32)) (n := 181) dX16_addTurn_178 gf_X16_43 (hR.kd (lvM h4 (by omega))) (hR.iv (lvM h4 (by omega)) (by decide) (by decide)) rfl ?_
    refine zs_if_le (tgt := 186) (n := 184) dX16_addTurn_181 (by decide) rfl (fun h => absurd h (by decide)) (fun _ => ?_)
    refine zs_iconst (v := 0) (n := 185) dX16_addTurn_184 (by decide) rfl ?_
    refine zs_ireturn dX16_addTurn_185 ⟨_, rfl, rfl⟩ ?_
    exact hQ _ hR
  · exact hR
theorem k_addTurn {i a : Nat} (hR : zRp Z Λ S M) (h4 : sc S 4 = 1) (hi : i < sc S 1000) (ha : a < sc S 1001) (hp : sV S 1001 680 = 0) (hel : fElsM S (nI a) (nI i) (sc S 1000) = false) (hn : sc S (1010 + i) < 8) {Q : zO → zMem → Prop} (hQ : ∀ Λ' M', zRp Z Λ' (fAddTurnM S i a) M' → zSame Λ Λ' → Q (.inl (some (.int (nI (sc S (1010 + i) + 1))))) M') : zX Z l 5 mth_X16_addTurn 0 (lv_args 0 [.ref (Λ 1001), .int (nI i), .int (nI a)]) [] M 8 42 Q := by
  show zX Z l 5 mth_X16_addTurn 0 [(0, .ref (Λ 1001)), (1, .int (nI i)), (2, .int (nI a))] [] M 8 42 Q
  have hb1 : sc S 1000 ≤ 6 := hR.bnd.2.1.1
  have hb2 : sc S 1001 ≤ 8 := hR.bnd.2.1.2.1
  refine zs_aload_n (n := 1) dX16_addTurn_0 rfl rfl ?_
  refine zs_aload_n (n := 2) dX16_addTurn_1 rfl rfl ?_
  refine zs_iload_n (n := 3) dX16_addTurn_2 rfl rfl ?_
  refine zc_V (n := 6) (As := [.int (nI i)]) (ci := 21) (mc := 0) (ms := 0) dX16_addTurn_3 ok_X16_isPitch ⟨ml_X16_84, im_X16_isPitch, sl_X16_isPitch⟩ rfl (hR.kd (lvM h4 (by omega))) rfl (Nat.le_of_ble_eq_true rfl) (by simp) (by omega) (Nat.le_refl _) (Nat.le_refl _) rfl rfl (k_isPitch hR h4) ?_
  refine zs_if_eq (tgt := 17) (n := 9) dX16_addTurn_6 (by decide) rfl (fun h => absurd h (zb1.mpr (fIn_ix hi (by omega)))) (fun _ => ?_)
  refine zs_aload_n (n := 10) dX16_addTurn_9 rfl rfl ?_
  refine zs_iload_n (n := 11) dX16_addTurn_10 rfl rfl ?_
  refine zc_V (n := 14) (As := [.int (nI a)]) (ci := 21) (mc := 0) (ms := 0) dX16_addTurn_11 ok_X16_isAct ⟨ml_X16_116, im_X16_isAct, sl_X16_isAct⟩ rfl (hR.kd (lvM h4 (by omega))) rfl (Nat.le_of_ble_eq_true rfl) (by simp) (by omega) (Nat.le_refl _) (Nat.le_refl _) rfl rfl (k_isAct hR h4) ?_
  refine zs_if_ne (tgt := 21) (n := 17) dX16_addTurn_14 (by decide) rfl (fun _ => ?_) (fun h => absurd h (zb1.mpr (fIn_ix ha (by omega))))
  refine zs_aload_n (n := 22) dX16_addTurn_21 rfl rfl ?_
  refine zs_getv (x := (sV S 1001 680)) (n := 25) dX16_addTurn_22 gf_X16_161 (hR.kd (lvM h4 (by omega))) (hR.iv (lvM h4 (by omega)) (by decide) (by decide)) rfl ?_
  refine zs_if_eq (tgt := 32) (n := 28) dX16_addTurn_25 (by decide) rfl (fun _ => ?_) (fun h => absurd hp h)
  refine zs_iconst (v := 0) (n := 33) dX16_addTurn_32 (by decide) rfl ?_
  refine zw_i (r := 1001) (n := 36) dX16_addTurn_33 pf_X16_addTurn_43 hR (lvM h4 (by omega)) (hR.kd (lvM h4 (by omega))) ⟨rfl, rfl⟩ (by decide) rfl ?_
  intro M hR hv
  refine zs_aload_n (n := 37) dX16_addTurn_36 rfl rfl ?_
  refine zs_getv (x := (0 : Int32)) (n := 40) dX16_addTurn_37 gf_X16_43 (hR.kd (lvM h4 (by omega))) (hR.iv (lvM h4 (by omega)) (by decide) (by decide)) rfl ?_
  refine zs_if_le (tgt := 45) (n := 43) dX16_addTurn_40 (by decide) rfl (fun _ => ?_) (fun h => absurd (by decide) h)
  refine zs_iconst (v := 0) (n := 46) dX16_addTurn_45 (by decide) rfl ?_
  refine zs_istore_n (n := 47) dX16_addTurn_46 (by decide) rfl ?_
  refine zs_iconst (v := 0) (n := 48) dX16_addTurn_47 (by decide) rfl ?_
  refine zX.more (nc' := 2 + (6 - 0)) (ns' := 18 + (24 - 4 * 0)) ?_ (by omega) (by omega)
  refine zs_istore (n := 50) dX16_addTurn_48 (by decide) rfl ?_
  refine zX.sub (L' := [(0, .ref (Λ 1001)), (1, .int (nI i)), (2, .int (nI a)), (3, .int (zb (fElsM S (nI a) (nI i) 0))), (4, .int (nI 0))]) ⟨rfl, rfl, rfl, rfl, rfl, trivial⟩ ?_
  refine zloop (n := sc S 1000) (X := fun j => ∀ M, zRp Z Λ (mT S 0) M → zX Z l 5 mth_X16_addTurn 50 [(0, .ref (Λ 1001)), (1, .int (nI i)), (2, .int (nI a)), (3, .int (zb (fElsM S (nI a) (nI i) j))), (4, .int (nI j))] [] M (2 + (6 - j)) (18 + (24 - 4 * j)) Q) (fun j hj ih => ?_) ?_ 0 (Nat.zero_le _) M ?_
  · intro M hR
    have hb9 : sc S 1000 ≤ 6 := hR.bnd.2.1.1
    refine zs_iload (n := 52) dX16_addTurn_50 rfl rfl ?_
    refine zs_aload_n (n := 53) dX16_addTurn_52 rfl rfl ?_
    refine zs_getr (b := (Λ 1015)) (n := 56) dX16_addTurn_53 gf_X16_10 (hR.kd (lvM h4 (by omega))) (hR.pt (lvM h4 (by omega)) rfl (by decide)) rfl ?_
    refine zc_size (c := sc S 1000) (n := 59) dX16_addTurn_56 ml_X16_46 (hR.lP' h4) (by simp) (by omega) rfl ?_
    refine zs_icmp_ge (tgt := 138) (n := 62) dX16_addTurn_59 (by decide) rfl (fun h => absurd h (nI_ge hj (by omega))) (fun _ => ?_)
    refine zs_aload_n (n := 63) dX16_addTurn_62 rfl rfl ?_
    refine zs_getr (b := (Λ 1015)) (n := 66) dX16_addTurn_63 gf_X16_10 (hR.kd (lvM h4 (by omega))) (hR.pt (lvM h4 (by omega)) rfl (by decide)) rfl ?_
    refine zs_iload (n := 68) dX16_addTurn_66 rfl rfl ?_
    refine zc_getb (c := sc S 1000) (b := (Λ (1100 + j))) (n := 71) dX16_addTurn_68 ml_X16_94 (hR.lP' h4) hj rfl (by simp) (by omega) rfl ?_
    refine zs_castS (ci := 18) (n := 74) dX16_addTurn_71 rfl cl_X16_68 (hR.kP' hj) rfl ?_
    refine zs_getr (b := (Λ (1120 + j))) (n := 77) dX16_addTurn_74 gf_X16_164 (hR.kP' hj) (hR.pT' hj) rfl ?_
    refine zi_new (r := (1120 + j)) (nc1 := 2 + (6 - (j + 1))) (ns1 := 18 + (24 - 4 * (j + 1))) (n := 80) 3000 dX16_addTurn_77 rfl hR (lvT' hj) (zki_T' (by omega)) (by decide) (by simp) (by omega) (by omega) (by omega) rfl ?_
    intro q77 M hR1 hI77 hq77 hag77
    have hR := hR1
    refine zs_astore (n := 82) dX16_addTurn_80 (by decide) rfl ?_
    refine zX.sub (L' := [(0, .ref (Λ 1001)), (1, .int (nI i)), (2, .int (nI a)), (3, .int (zb (fElsP S (nI a) (nI i) j 0 (fElsM S (nI a) (nI i) j)))), (4, .int (nI j)), (5, .ref q77)]) ⟨rfl, rfl, rfl, rfl, rfl, rfl, trivial⟩ ?_
    refine zloop (n := sc S (1010 + j)) (X := fun k => ∀ M, zRp Z Λ (mT S 0) M ∧ zIt M q77 (Λ (1120 + j)) k 3000 → zX Z l 5 mth_X16_addTurn 82 [(0, .ref (Λ 1001)), (1, .int (nI i)), (2, .int (nI a)), (3, .int (zb (fElsP S (nI a) (nI i) j k (fElsM S (nI a) (nI i) j)))), (4, .int (nI j)), (5, .ref q77)] [] M (2 + (6 - (j + 1))) (18 + (24 - 4 * (j + 1))) Q) (fun k hk ihk => ?_) ?_ 0 (Nat.zero_le _) M ?_
    · intro M hR9
      obtain ⟨hR, hI77⟩ := hR9
      have hb982 : sc S (1010 + j) ≤ _ := hR.bnd.2.2 j
      refine zs_aload (n := 84) dX16_addTurn_82 rfl rfl ?_
      refine zi_has (r := (1120 + j)) (j := k) (n := 89) dX16_addTurn_84 rfl hR (lvT' hj) (zki_T' (by omega)) hI77 (by rw [show zct (sc (sc S, u2 (sV S) 1001 672 (0 : Int32), sW S, sT S, sP S)) (1120 + j) = sc S (1010 + j) from zct_T' (by omega)]; omega) (by simp) (by omega) rfl ?_
      rw [show zct (sc (sc S, u2 (sV S) 1001 672 (0 : Int32), sW S, sT S, sP S)) (1120 + j) = sc S (1010 + j) from zct_T' (by omega)]
      refine zs_if_eq (tgt := 132) (n := 92) dX16_addTurn_89 (by decide) rfl (fun h => absurd h (zb1.mpr (by rw [decide_eq_false (by omega)]; rfl))) (fun _ => ?_)
      refine zs_aload (n := 94) dX16_addTurn_92 rfl rfl ?_
      refine zi_next (r := (1120 + j)) (j := k) (b := (Λ (1160 + 8 * j + k))) (n := 99) dX16_addTurn_94 rfl hR (lvT' hj) (zki_T' (by omega)) hI77 (by rw [show zct (sc (sc S, u2 (sV S) 1001 672 (0 : Int32), sW S, sT S, sP S)) (1120 + j) = sc S (1010 + j) from zct_T' (by omega)]; exact hk) (by rw [zbs_T' (by omega)]) (by simp) (by omega) rfl ?_
      intro M hR1 hI77n hag94
      have hI77 := hI77n
      have hR := hR1
      refine zs_castS (ci := 19) (n := 102) dX16_addTurn_99 rfl cl_X16_167 (hR.kK' hj hk) rfl ?_
      refine zs_astore (n := 104) dX16_addTurn_102 (by decide) rfl ?_
      refine zs_iload_n (n := 105) dX16_addTurn_104 rfl rfl ?_
      refine zs_if_ne (tgt := 123) (n := 108) dX16_addTurn_105 (by decide) rfl (fun h105 => ?_) (fun h105 => ?_)
      · refine zs_iconst (v := 1) (n := 124) dX16_addTurn_123 (by decide) rfl ?_
        refine zs_goto (tgt := 128) dX16_addTurn_124 (by decide) ?_
        refine zs_istore_n (n := 129) dX16_addTurn_128 (by decide) rfl ?_
        refine zs_goto (tgt := 82) dX16_addTurn_129 (by decide) ?_
        refine zX.sub (L' := [(0, .ref (Λ 1001)), (1, .int (nI i)), (2, .int (nI a)), (3, .int (zb (fElsP S (nI a) (nI i) j (k + 1) (fElsM S (nI a) (nI i) j)))), (4, .int (nI j)), (5, .ref q77)]) ⟨rfl, rfl, rfl, (show some (Value.int (1 : Int32)) = some (Value.int (zb (fElsP S (nI a) (nI i) j (k + 1) (fElsM S (nI a) (nI i) j)))) from congrArg (fun z => some (Value.int z)) (by rw [show fElsP S (nI a) (nI i) j (k + 1) (fElsM S (nI a) (nI i) j) = (fElsP S (nI a) (nI i) j k (fElsM S (nI a) (nI i) j) || (!decide (nI j = (nI i)) && decide (sV S (1160 + 8 * j + k) 608 = (nI a)))) from rfl]; cases h9 : fElsP S (nI a) (nI i) j k (fElsM S (nI a) (nI i) j) <;> simp_all [zb])), rfl, rfl, trivial⟩ ?_
        exact ihk M ⟨hR, hI77⟩
      · refine zs_iload (n := 110) dX16_addTurn_108 rfl rfl ?_
        refine zs_iload_n (n := 111) dX16_addTurn_110 rfl rfl ?_
        refine zs_icmp_eq (tgt := 127) (n := 114) dX16_addTurn_111 (by decide) rfl (fun h111 => ?_) (fun h111 => ?_)
        · refine zs_iconst (v := 0) (n := 128) dX16_addTurn_127 (by decide) rfl ?_
          refine zs_istore_n (n := 129) dX16_addTurn_128 (by decide) rfl ?_
          refine zs_goto (tgt := 82) dX16_addTurn_129 (by decide) ?_
          refine zX.sub (L' := [(0, .ref (Λ 1001)), (1, .int (nI i)), (2, .int (nI a)), (3, .int (zb (fElsP S (nI a) (nI i) j (k + 1) (fElsM S (nI a) (nI i) j)))), (4, .int (nI j)), (5, .ref q77)]) ⟨rfl, rfl, rfl, (show some (Value.int (0 : Int32)) = some (Value.int (zb (fElsP S (nI a) (nI i) j (k + 1) (fElsM S (nI a) (nI i) j)))) from congrArg (fun z => some (Value.int z)) (by rw [show fElsP S (nI a) (nI i) j (k + 1) (fElsM S (nI a) (nI i) j) = (fElsP S (nI a) (nI i) j k (fElsM S (nI a) (nI i) j) || (!decide (nI j = (nI i)) && decide (sV S (1160 + 8 * j + k) 608 = (nI a)))) from rfl]; cases h9 : fElsP S (nI a) (nI i) j k (fElsM S (nI a) (nI i) j) <;> simp_all [zb])), rfl, rfl, trivial⟩ ?_
          exact ihk M ⟨hR, hI77⟩
        · refine zs_aload (n := 116) dX16_addTurn_114 rfl rfl ?_
          refine zs_getv (x := (sV S (1160 + 8 * j + k) 608)) (n := 119) dX16_addTurn_116 gf_X16_169 (hR.kK' hj hk) (hR.iv (lvK' hj hk) (by decide) (by decide)) rfl ?_
          refine zs_iload_n (n := 120) dX16_addTurn_119 rfl rfl ?_
          refine zs_icmp_ne (tgt := 127) (n := 123) dX16_addTurn_120 (by decide) rfl (fun h120 => ?_) (fun h120 => ?_)
          · refine zs_iconst (v := 0) (n := 128) dX16_addTurn_127 (by decide) rfl ?_
            refine zs_istore_n (n := 129) dX16_addTurn_128 (by decide) rfl ?_
            refine zs_goto (tgt := 82) dX16_addTurn_129 (by decide) ?_
            refine zX.sub (L' := [(0, .ref (Λ 1001)), (1, .int (nI i)), (2, .int (nI a)), (3, .int (zb (fElsP S (nI a) (nI i) j (k + 1) (fElsM S (nI a) (nI i) j)))), (4, .int (nI j)), (5, .ref q77)]) ⟨rfl, rfl, rfl, (show some (Value.int (0 : Int32)) = some (Value.int (zb (fElsP S (nI a) (nI i) j (k + 1) (fElsM S (nI a) (nI i) j)))) from congrArg (fun z => some (Value.int z)) (by rw [show fElsP S (nI a) (nI i) j (k + 1) (fElsM S (nI a) (nI i) j) = (fElsP S (nI a) (nI i) j k (fElsM S (nI a) (nI i) j) || (!decide (nI j = (nI i)) && decide (sV S (1160 + 8 * j + k) 608 = (nI a)))) from rfl]; cases h9 : fElsP S (nI a) (nI i) j k (fElsM S (nI a) (nI i) j) <;> simp_all [zb])), rfl, rfl, trivial⟩ ?_
            exact ihk M ⟨hR, hI77⟩
          · refine zs_iconst (v := 1) (n := 124) dX16_addTurn_123 (by decide) rfl ?_
            refine zs_goto (tgt := 128) dX16_addTurn_124 (by decide) ?_
            refine zs_istore_n (n := 129) dX16_addTurn_128 (by decide) rfl ?_
            refine zs_goto (tgt := 82) dX16_addTurn_129 (by decide) ?_
            refine zX.sub (L' := [(0, .ref (Λ 1001)), (1, .int (nI i)), (2, .int (nI a)), (3, .int (zb (fElsP S (nI a) (nI i) j (k + 1) (fElsM S (nI a) (nI i) j)))), (4, .int (nI j)), (5, .ref q77)]) ⟨rfl, rfl, rfl, (show some (Value.int (1 : Int32)) = some (Value.int (zb (fElsP S (nI a) (nI i) j (k + 1) (fElsM S (nI a) (nI i) j)))) from congrArg (fun z => some (Value.int z)) (by rw [show fElsP S (nI a) (nI i) j (k + 1) (fElsM S (nI a) (nI i) j) = (fElsP S (nI a) (nI i) j k (fElsM S (nI a) (nI i) j) || (!decide (nI j = (nI i)) && decide (sV S (1160 + 8 * j + k) 608 = (nI a)))) from rfl]; cases h9 : fElsP S (nI a) (nI i) j k (fElsM S (nI a) (nI i) j) <;> simp_all [zb])), rfl, rfl, trivial⟩ ?_
            exact ihk M ⟨hR, hI77⟩
    · intro M hR9
      obtain ⟨hR, hI77⟩ := hR9
      have hb982 : sc S (1010 + j) ≤ _ := hR.bnd.2.2 j
      refine zs_aload (n := 84) dX16_addTurn_82 rfl rfl ?_
      refine zi_has (r := (1120 + j)) (j := sc S (1010 + j)) (n := 89) dX16_addTurn_84 rfl hR (lvT' hj) (zki_T' (by omega)) hI77 (by rw [show zct (sc (sc S, u2 (sV S) 1001 672 (0 : Int32), sW S, sT S, sP S)) (1120 + j) = sc S (1010 + j) from zct_T' (by omega)]; omega) (by simp) (by omega) rfl ?_
      rw [show zct (sc (sc S, u2 (sV S) 1001 672 (0 : Int32), sW S, sT S, sP S)) (1120 + j) = sc S (1010 + j) from zct_T' (by omega)]
      refine zs_if_eq (tgt := 132) (n := 92) dX16_addTurn_89 (by decide) rfl (fun _ => ?_) (fun h => absurd (zb0.mpr (by rw [decide_eq_true rfl]; rfl)) h)
      refine zs_iinc (v := (nI (j + 1))) (n := 135) dX16_addTurn_132 rfl (nI_1 _) (by decide) rfl ?_
      refine zs_goto (tgt := 50) dX16_addTurn_135 (by decide) ?_
      refine zX.sub (L' := [(0, .ref (Λ 1001)), (1, .int (nI i)), (2, .int (nI a)), (3, .int (zb (fElsM S (nI a) (nI i) (j + 1)))), (4, .int (nI (j + 1)))]) ⟨rfl, rfl, rfl, rfl, rfl, trivial⟩ ?_
      exact ih M hR
    · exact ⟨hR, hI77⟩
  · intro M hR
    have hb9 : sc S 1000 ≤ 6 := hR.bnd.2.1.1
    refine zs_iload (n := 52) dX16_addTurn_50 rfl rfl ?_
    refine zs_aload_n (n := 53) dX16_addTurn_52 rfl rfl ?_
    refine zs_getr (b := (Λ 1015)) (n := 56) dX16_addTurn_53 gf_X16_10 (hR.kd (lvM h4 (by omega))) (hR.pt (lvM h4 (by omega)) rfl (by decide)) rfl ?_
    refine zc_size (c := sc S 1000) (n := 59) dX16_addTurn_56 ml_X16_46 (hR.lP' h4) (by simp) (by omega) rfl ?_
    refine zs_icmp_ge (tgt := 138) (n := 62) dX16_addTurn_59 (by decide) rfl (fun _ => ?_) (fun h => absurd (nI_le (Nat.le_refl _) (by omega)) h)
    refine zs_aload_n (n := 139) dX16_addTurn_138 rfl rfl ?_
    refine zs_getr (b := (Λ 1015)) (n := 142) dX16_addTurn_139 gf_X16_10 (hR.kd (lvM h4 (by omega))) (hR.pt (lvM h4 (by omega)) rfl (by decide)) rfl ?_
    refine zs_iload_n (n := 143) dX16_addTurn_142 rfl rfl ?_
    refine zc_getb (c := sc S 1000) (b := (Λ (1100 + i))) (n := 146) dX16_addTurn_143 ml_X16_94 (hR.lP' h4) hi rfl (by simp) (by omega) rfl ?_
    refine zs_castS (ci := 18) (n := 149) dX16_addTurn_146 rfl cl_X16_68 (hR.kP' hi) rfl ?_
    refine zs_getr (b := (Λ (1120 + i))) (n := 152) dX16_addTurn_149 gf_X16_164 (hR.kP' hi) (hR.pT' hi) rfl ?_
    refine zs_astore (n := 154) dX16_addTurn_152 (by decide) rfl ?_
    refine zs_aload_n (n := 155) dX16_addTurn_154 rfl rfl ?_
    refine zs_iload_n (n := 156) dX16_addTurn_155 rfl rfl ?_
    refine zs_if_ne (tgt := 169) (n := 159) dX16_addTurn_156 (by decide) rfl (fun h => absurd (zb0.mpr hel) h) (fun _ => ?_)
    refine zs_aload (n := 161) dX16_addTurn_159 rfl rfl ?_
    refine zc_size (c := sc S (1010 + i)) (n := 164) dX16_addTurn_161 ml_X16_46 (hR.lT' hi) (by simp) (by omega) rfl ?_
    refine zs_bipush (v := 8) (n := 166) dX16_addTurn_164 (by decide) rfl ?_
    refine zs_icmp_ne (tgt := 173) (n := 169) dX16_addTurn_166 (by decide) rfl (fun _ => ?_) (fun h => absurd h (fun h9 => by have := (nI_eq (b := 8) (by omega) (by decide)).mp h9; omega))
    refine zs_iconst (v := 0) (n := 174) dX16_addTurn_173 (by decide) rfl ?_
    refine zw_i (r := 1001) (n := 177) dX16_addTurn_174 pf_X16_addTurn_43 hR (lvM h4 (by omega)) (hR.kd (lvM h4 (by omega))) ⟨rfl, rfl⟩ (by decide) rfl ?_
    intro M hR hv
    refine zs_aload_n (n := 178) dX16_addTurn_177 rfl rfl ?_
    refine zs_getv (x := (0 : Int32)) (n := 181) dX16_addTurn_178 gf_X16_43 (hR.kd (lvM h4 (by omega))) (hR.iv (lvM h4 (by omega)) (by decide) (by decide)) rfl ?_
    refine zs_if_le (tgt := 186) (n := 184) dX16_addTurn_181 (by decide) rfl (fun _ => ?_) (fun h => absurd (by decide) h)
    refine zs_aload (n := 188) dX16_addTurn_186 rfl rfl ?_
    refine zh_new (M0 := M) (N := 8) (nc1 := 1) (ns1 := 10) (n := 191) (1160 + 8 * i + sc S (1010 + i)) dX16_addTurn_188 nc_X16_167 (zPic.nil (Λ := Λ)) rfl (by decide) rfl (by omega) (by omega) ?_
    have hR0 := hR
    intro q M hP
    have hR := hR0.grow (M' := M) (fun _ _ => rfl) ⟨rfl, rfl⟩ (fun _ _ _ => rfl) hP.1
    refine zs_dup (n := 192) dX16_addTurn_191 rfl rfl ?_
    refine zs_iload_n (n := 193) dX16_addTurn_192 rfl rfl ?_
    refine zg_I (n := 196) (As := [.int (nI a)]) (mc := 0) (ms := 0) (nc1 := 1) (ns1 := 10) dX16_addTurn_193 ok_X14_init ⟨ml_X16_172, im_X14_init, rfl, rfl⟩ rfl (Nat.le_of_ble_eq_true rfl) (by simp) (by omega) (by omega) (by omega) rfl rfl (h_X14_init (r0 := (1160 + 8 * i + sc S (1010 + i))) u1_at hP qNa kNa) ?_
    clear hR
    intro M hP
    have hb := hR0.bnd
    have hcs : (cset (sc S) (1010 + i) (sc S (1010 + i) + 1)) = cset (sc S) (zci (1120 + i)) (zct (sc S) (1120 + i) + 1) := by rw [zci_T' (by omega), zct_T' (by omega)]
    have hb9 : zBnd (cset (sc S) (1010 + i) (sc S (1010 + i) + 1)) := by rw [hcs]; exact (hb.up (r := 1120 + i) (by unfold zlr; omega) (by rw [if_neg (by omega), if_neg (by omega), zct_T' (by omega)]; show sc S (1010 + i) + 1 ≤ 8; omega))
    have hk29 : zki (1160 + 8 * i + sc S (1010 + i)) = 29 := by rw [Nat.add_assoc]; exact zki_Km (by omega)
    refine zw_putm (r := 1120 + i) (r0 := (1160 + 8 * i + sc S (1010 + i))) (V0 := (fun k => if k = 608 then nI a else if k = 609 then -1 else 0)) (c' := (cset (sc S) (1010 + i) (sc S (1010 + i) + 1))) (nc1 := 0) (ns1 := 0) (n := 199) rfl dX16_addTurn_196 ml_X16_80 hR0 hP (lvT' hi) (zki_T' (by omega)) (by show zct (sc S) (1120 + i) < 10; rw [zct_T' (by omega)]; omega) hcs hb9 (by rw [zbs_T' (by omega), zct_T' (by omega)]) (zlv_no hb (Or.inr (Or.inr (Or.inr (Or.inr ⟨i, _, rfl, by omega, hn, Nat.le_refl _⟩))))) (by omega) (qIn (qIn qNa)) ((kIn (kIn kNa)).trans hk29.symm) ⟨19, _, hk29, rfl, co_X14, by decide⟩ (fun k h1 h2 => ?_) (fun j => ?_) (fun s hs hns => zlvKm_new hb hs (by omega) hns) ⟨show (cset (sc S) (1010 + i) (sc S (1010 + i) + 1)) 1003 = sc S 1003 from cset_ne (by omega), show (cset (sc S) (1010 + i) (sc S (1010 + i) + 1)) 6 = sc S 6 from cset_ne (by omega)⟩ (by simp) (by omega) (by omega) (by omega) rfl ?_
    · simp [u1, u2]
    · simp [u1]
    intro Λ M hR hS hΛ
    have e1 := hS.2.1
    rw [← e1]
    have e2 : Λ (1120 + i) = _ := hΛ (1120 + i) (by omega) (by rw [zrw_T']; omega)
    rw [← e2]
    have hR : zRp Z Λ (fAddTurnM S i a) M := hR
    have hi0 := hi
    have hi : i < sc (fAddTurnM S i a) 1000 := by rw [show sc (fAddTurnM S i a) 1000 = sc S 1000 from cset_ne (by omega)]; exact hi
    have hcn : sc (fAddTurnM S i a) (1010 + i) = sc S (1010 + i) + 1 := cset_at
    refine zs_pop (n := 200) dX16_addTurn_199 rfl rfl ?_
    refine zs_aload (n := 202) dX16_addTurn_200 rfl rfl ?_
    refine zc_size (c := sc (fAddTurnM S i a) (1010 + i)) (n := 205) dX16_addTurn_202 ml_X16_46 (hR.lT' hi) (by simp) (by omega) rfl ?_
    rw [hcn]
    refine zs_ireturn dX16_addTurn_205 ⟨_, rfl, rfl⟩ ?_
    exact hQ _ _ hR hS
  · exact hR
end ZMOD3
