/-! THE LAW 2: rules of one call -/
/-- the law's method; its name is the start's to tell -/
abbrev mth_L (nm : String) (hh : List (Nat × Nat × Nat × Nat)) : zMeth := (⟨RL, nm, "([I)Z"⟩, cL_law, 9, (some .boolean), hh)
abbrev LL (Z : zPar) (x m o od j : Nat) : List (Nat × Value) := [(0, .ref (zPs Z).1), (1, .ref x), (2, .ref m), (3, .ref o), (4, .ref od), (5, .int (nI j))]
abbrev L7 (Z : zPar) (x m o od j : Nat) (c : Int32) (v : Value) : List (Nat × Value) := [(0, .ref (zPs Z).1), (1, .ref x), (2, .ref m), (3, .ref o), (4, .ref od), (5, .int (nI j)), (6, .int c), (7, v)]
section ZLAW3
variable {nm : String} {hh : List (Nat × Nat × Nat × Nat)} {Z : zPar} {l : Launch} {x m o od j nc ns pc n ix nargs : Nat} {mm mm' : zMeth} {L : List (Nat × Value)} {st st0 As : List Value} {M : zMem} {Q : zO → zMem → Prop} {S S1 S2 : zSt} {c b : Int32} {v : Value}
theorem lgc (y : Int64) : lg_cmp y y = 0 := by
  unfold lg_cmp
  simp
theorem zl_arg {k : Nat} {kz : Int} (hL0 : zg L 0 = some (.ref (zPs Z).1)) (hL5 : zg L 5 = some (.int (nI j))) (d1 : decode (zMC mm) pc = .ok (.aload_n 0, 1)) (d2 : decode (zMC mm) (pc + 1) = .ok (.iload 5, 2)) (d3 : decode (zMC mm) (pc + 1 + 2) = .ok (.iconst kz, 1)) (d4 : decode (zMC mm) (pc + 1 + 2 + 1) = .ok (.iadd, 1)) (d5 : decode (zMC mm) (pc + 1 + 2 + 1 + 1) = .ok (.iaload, 1)) (hk : Int32.ofInt kz = nI k) (hj : j + k < (zPs Z).2.1) (h31 : j + k < 2 ^ 31) (hn : pc + 6 = n) (kk : zX Z l 12 mm n L (.int ((zPs Z).2.2 (j + k)) :: st) M nc ns Q) : zX Z l 12 mm pc L st M nc ns Q := by
  subst hn
  refine zs_aload_n d1 hL0 rfl ?_
  refine zs_iload d2 hL5 rfl ?_
  refine zs_iconst d3 hk rfl ?_
  refine zs_iadd d4 rfl ?_
  rw [nI_add]
  exact zs_sld d5 hj h31 rfl kk
theorem zl_bool {y : Int32} (d1 : decode (zMC mm) pc = .ok (.ifCond .eq 7, 3)) (d2 : decode (zMC mm) (pc + 3) = .ok (.iconst 1, 1)) (d3 : decode (zMC mm) (pc + 3 + 1) = .ok (.goto 4, 3)) (d4 : decode (zMC mm) (pc + 7) = .ok (.iconst 0, 1)) (hn : pc + 8 = n) (kk : zX Z l 12 mm n L (.int (if y = 0 then 0 else 1) :: st) M nc ns Q) : zX Z l 12 mm pc L (.int y :: st) M nc ns Q := by
  subst hn
  refine zs_if_eq (tgt := pc + 7) d1 (by omega) rfl (fun h => ?_) (fun h => ?_)
  · rw [if_pos h] at kk
    exact zs_iconst (v := 0) d4 rfl rfl kk
  · rw [if_neg h] at kk
    refine zs_iconst (v := 1) d2 rfl rfl ?_
    exact zs_goto (tgt := pc + 8) d3 (by omega) kk
theorem zl_W (hd : decode (zMC mm) pc = .ok (.invokestatic ix, 3)) (hm : zMokH mm' nargs) (hw : zwd (.methodLink (zMY mm).cls ix (zMY mm')) ∧ zwd (.static (zMY mm'))) (hAs : As.length = nargs) (hfit : (lg_sl As).length ≤ zML mm') (hst : st.length ≤ 4) (hstk : st0 = As.reverse ++ st) (hn : pc + 3 = n) (h1 : zHfC Z l mm' As x m o od S (.int c) S1) (hM : zR Z x m o od S M) (kk : ∀ M', zR Z x m o od S1 M' → zX Z l 12 mm n L (.int c :: st) M' nc ns Q) : zX Z l 12 mm pc L st0 M (nc + 200) (ns + 1000) Q :=
  zs_invSX (d' := 11) (mc := 200) (ms := 1000) (nc1 := nc) (ns1 := ns) (Post := fun oc M' => oc = .inl (some (.int c)) ∧ zR Z x m o od S1 M') hd hm hw hAs hfit hst rfl (Nat.le_refl _) (Nat.le_refl _) hstk hn (fun k M' h => nomatch h.1) ((h1.1 M hM _ (fun M' h => ⟨rfl, h⟩)).deep (by omega)) (fun v M' h => by
    obtain ⟨hv, hR⟩ := h
    cases hv
    exact kk M' hR)
theorem zl_V {ci b9 : Nat} {r : vw_C} (hd : decode (zMC mm) pc = .ok (.invokevirtual ix, 3)) (hm : zMok mm' nargs) (hw : zwd (.methodLink (zMY mm).cls ix (zMY mm')) ∧ zwd (.instanceMethod (zMY mm')) ∧ zwd (.selects r.1 (zMY mm') (zMY mm'))) (hr : vwCl[ci]? = some r) (hK : mK M b9 = 10 + ci) (hAs : As.length = nargs) (hfit : (lg_sl (.ref b9 :: As)).length ≤ zML mm') (hst : st.length ≤ 4) (hstk : st0 = As.reverse ++ .ref b9 :: st) (hn : pc + 3 = n) (h2 : zHf Z l mm' (.ref b9 :: As) x m o od S v S2) (hM : zR Z x m o od S M) (kk : ∀ M', zR Z x m o od S2 M' → zX Z l 12 mm n L (v :: st) M' nc ns Q) : zX Z l 12 mm pc L st0 M (nc + 200) (ns + 1000) Q :=
  zg_V (nc1 := nc) (ns1 := ns) hd hm hw hr hK hAs hfit hst (show 10 < 12 by omega) (Nat.le_refl _) (Nat.le_refl _) hstk hn (h2 M hM) kk
theorem zR.kM (hM : zR Z x m o od S M) (h4 : sc S 4 = 1) : mK M m = 31 := by
  obtain ⟨Λ, hR, h1, h2, -⟩ := hM
  rw [← h2]
  exact hR.kd (lvM h4 (by omega))
theorem zR.kX (hM : zR Z x m o od S M) (h3 : sc S 3 = 1) : mK M x = 26 := by
  obtain ⟨Λ, hR, h1, h2, -⟩ := hM
  rw [← h1]
  exact hR.kd (lvC h3 (by omega))
theorem zR.rowsO (hM : zR Z x m o od S M) (h5 : sc S 5 = 1) : (mK M o = 5 ∧ mN M o = 1 ∧ aL M o 0 = lN (sP S 1000)) ∧ mK M od = 6 ∧ mN M od = 1 ∧ aD M od 0 = UInt64.ofNat (sP S 1001) := by
  obtain ⟨Λ, hR, h1, h2, h6, h7⟩ := hM
  rw [← h6, ← h7]
  exact hR.outs.1 h5
theorem zl_T (hd : decode (zMC (mth_L nm hh)) pc = .ok (.invokevirtual 134, 3)) (hn : pc + 3 = n) (hst : st.length ≤ 4) (hM : zR Z x m o od S M) (h4 : sc S 4 = 1) (hc : sV S 1001 672 = c) (kk : zX Z l 12 (mth_L nm hh) n L (.int c :: st) M nc ns Q) : zX Z l 12 (mth_L nm hh) pc L (.ref m :: st) M nc ns Q := by
  subst hc
  obtain ⟨Λ, hR, h1, h2, -⟩ := hM
  subst h2
  exact zc_V (As := []) (ci := 21) (mc := 0) (ms := 0) (d' := 0) hd ok_X16_thrown ⟨ml_L_134, im_X16_thrown, sl_X16_thrown⟩ rfl (hR.kd (lvM h4 (by omega))) rfl (Nat.le_of_ble_eq_true rfl) hst (by omega) (Nat.le_refl _) (Nat.le_refl _) rfl hn (k_thrown hR h4) kk
/-- what follows both calls, where an int is told -/
theorem zl_tI {off : Int} (d1 : decode (zMC (mth_L nm hh)) pc = .ok (.aload_n 2, 1)) (d2 : decode (zMC (mth_L nm hh)) (pc + 1) = .ok (.invokevirtual 134, 3)) (d3 : decode (zMC (mth_L nm hh)) (pc + 4) = .ok (.iload 6, 2)) (d4 : decode (zMC (mth_L nm hh)) (pc + 6) = .ok (.if_icmp .eq 5, 3)) (d5 : decode (zMC (mth_L nm hh)) (pc + 11) = .ok (.iload 6, 2)) (d6 : decode (zMC (mth_L nm hh)) (pc + 13) = .ok (.ifCond .ne 15, 3)) (d7 : decode (zMC (mth_L nm hh)) (pc + 16) = .ok (.aload_n 3, 1)) (d8 : decode (zMC (mth_L nm hh)) (pc + 17) = .ok (.iconst 0, 1)) (d9 : decode (zMC (mth_L nm hh)) (pc + 18) = .ok (.laload, 1)) (d10 : decode (zMC (mth_L nm hh)) (pc + 19) = .ok (.iload 7, 2)) (d11 : decode (zMC (mth_L nm hh)) (pc + 21) = .ok (.i2l, 1)) (d12 : decode (zMC (mth_L nm hh)) (pc + 22) = .ok (.lcmp, 1)) (d13 : decode (zMC (mth_L nm hh)) (pc + 23) = .ok (.ifCond .eq 5, 3)) (d14 : decode (zMC (mth_L nm hh)) (pc + 28) = .ok (.goto off, 3)) (ht : ((pc + 28 : Nat) : Int) + off = (2314 : Nat))
    (hS : rRel S) (hM : zR Z x m o od S M) (h3 : sV S 1001 672 = c) (h4 : c = 0 → lN (sP S 1000) = cvI b) (kk : ∀ M', zR Z x m o od S M' → zX Z l 12 (mth_L nm hh) 2314 (LL Z x m o od j) [] M' nc ns Q) : zX Z l 12 (mth_L nm hh) pc (L7 Z x m o od j c (.int b)) [] M nc ns Q := by
  have hend : zX Z l 12 (mth_L nm hh) (pc + 28) (L7 Z x m o od j c (.int b)) [] M nc ns Q := by
    refine zs_goto (tgt := 2314) d14 ht ?_
    exact zX.sub (L' := LL Z x m o od j) ⟨rfl, rfl, rfl, rfl, rfl, rfl, trivial⟩ (kk M hM)
  refine zs_aload_n d1 rfl rfl ?_
  refine zl_T d2 rfl (by simp) hM hS.h4 h3 ?_
  refine zs_iload d3 rfl rfl ?_
  refine zs_icmp_eq (tgt := pc + 11) d4 (by omega) rfl (fun _ => ?_) (fun h => absurd rfl h)
  refine zs_iload d5 rfl rfl ?_
  refine zs_if_ne (tgt := pc + 28) d6 (by omega) rfl (fun _ => hend) (fun h0 => ?_)
  obtain ⟨⟨o1, o2, o3⟩, -⟩ := hM.rowsO hS.h5
  refine zs_aload_n d7 rfl rfl ?_
  refine zs_iconst (v := 0) d8 rfl rfl ?_
  refine zs_lald d9 o1 (by rw [o2]; exact (vp_in_nI (by omega) (by omega) : vp_in (nI 0) 1)) rfl ?_
  rw [show (0 : Int32).toNatClampNeg = 0 from rfl, o3, h4 h0]
  refine zs_iload d10 rfl rfl ?_
  refine zs_i2l d11 rfl ?_
  refine zs_lcmp d12 rfl ?_
  exact zs_if_eq (tgt := pc + 28) d13 (by omega) rfl (fun _ => hend) (fun h => absurd (lgc _) h)
/-- and where a boolean is told -/
theorem zl_tZ {off : Int} (d1 : decode (zMC (mth_L nm hh)) pc = .ok (.aload_n 2, 1)) (d2 : decode (zMC (mth_L nm hh)) (pc + 1) = .ok (.invokevirtual 134, 3)) (d3 : decode (zMC (mth_L nm hh)) (pc + 4) = .ok (.iload 6, 2)) (d4 : decode (zMC (mth_L nm hh)) (pc + 6) = .ok (.if_icmp .eq 5, 3)) (d5 : decode (zMC (mth_L nm hh)) (pc + 11) = .ok (.iload 6, 2)) (d6 : decode (zMC (mth_L nm hh)) (pc + 13) = .ok (.ifCond .ne 22, 3)) (d7 : decode (zMC (mth_L nm hh)) (pc + 16) = .ok (.aload_n 3, 1)) (d8 : decode (zMC (mth_L nm hh)) (pc + 17) = .ok (.iconst 0, 1)) (d9 : decode (zMC (mth_L nm hh)) (pc + 18) = .ok (.laload, 1)) (d10 : decode (zMC (mth_L nm hh)) (pc + 19) = .ok (.iload 7, 2)) (d11 : decode (zMC (mth_L nm hh)) (pc + 21) = .ok (.ifCond .eq 7, 3)) (d12 : decode (zMC (mth_L nm hh)) (pc + 24) = .ok (.lconst 1, 1)) (d13 : decode (zMC (mth_L nm hh)) (pc + 25) = .ok (.goto 4, 3)) (d14 : decode (zMC (mth_L nm hh)) (pc + 28) = .ok (.lconst 0, 1)) (d15 : decode (zMC (mth_L nm hh)) (pc + 29) = .ok (.lcmp, 1)) (d16 : decode (zMC (mth_L nm hh)) (pc + 30) = .ok (.ifCond .eq 5, 3)) (d17 : decode (zMC (mth_L nm hh)) (pc + 35) = .ok (.goto off, 3)) (ht : ((pc + 35 : Nat) : Int) + off = (2314 : Nat))
    (hS : rRel S) (hM : zR Z x m o od S M) (h3 : sV S 1001 672 = c) (h4 : c = 0 → lN (sP S 1000) = cvZ b) (kk : ∀ M', zR Z x m o od S M' → zX Z l 12 (mth_L nm hh) 2314 (LL Z x m o od j) [] M' nc ns Q) : zX Z l 12 (mth_L nm hh) pc (L7 Z x m o od j c (.int b)) [] M nc ns Q := by
  have hend : zX Z l 12 (mth_L nm hh) (pc + 35) (L7 Z x m o od j c (.int b)) [] M nc ns Q := by
    refine zs_goto (tgt := 2314) d17 ht ?_
    exact zX.sub (L' := LL Z x m o od j) ⟨rfl, rfl, rfl, rfl, rfl, rfl, trivial⟩ (kk M hM)
  refine zs_aload_n d1 rfl rfl ?_
  refine zl_T d2 rfl (by simp) hM hS.h4 h3 ?_
  refine zs_iload d3 rfl rfl ?_
  refine zs_icmp_eq (tgt := pc + 11) d4 (by omega) rfl (fun _ => ?_) (fun h => absurd rfl h)
  refine zs_iload d5 rfl rfl ?_
  refine zs_if_ne (tgt := pc + 35) d6 (by omega) rfl (fun _ => hend) (fun h0 => ?_)
  obtain ⟨⟨o1, o2, o3⟩, -⟩ := hM.rowsO hS.h5
  refine zs_aload_n d7 rfl rfl ?_
  refine zs_iconst (v := 0) d8 rfl rfl ?_
  refine zs_lald d9 o1 (by rw [o2]; exact (vp_in_nI (by omega) (by omega) : vp_in (nI 0) 1)) rfl ?_
  rw [show (0 : Int32).toNatClampNeg = 0 from rfl, o3, h4 h0]
  refine zs_iload d10 rfl rfl ?_
  have hcmp : ∀ y : Int64, y = cvZ b → zX Z l 12 (mth_L nm hh) (pc + 29) (L7 Z x m o od j c (.int b)) [.long y, .long (cvZ b)] M nc ns Q := fun y hy => by
    subst hy
    refine zs_lcmp d15 rfl ?_
    exact zs_if_eq (tgt := pc + 35) d16 (by omega) rfl (fun _ => hend) (fun h => absurd (lgc _) h)
  refine zs_if_eq (tgt := pc + 28) d11 (by omega) rfl (fun hb => ?_) (fun hb => ?_)
  · refine zs_lconst (v := 0) d14 rfl rfl ?_
    exact hcmp 0 (if_pos hb).symm
  · refine zs_lconst (v := 1) d12 rfl rfl ?_
    refine zs_goto (tgt := pc + 29) d13 (by omega) ?_
    exact hcmp 1 (if_neg hb).symm
end ZLAW3
