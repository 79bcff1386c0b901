/-! CUSTOMS, LOTS, diary, visits' fines, a turn's tale, who passes in a minute -/
section ZCUST
variable {Z : zPar} {l : Launch} {Λ : Nat → Nat} {S : zSt} {M : zMem} {d d' : Nat} {mm : zMeth} {pc n nc ns ix : Nat} {L : List (Nat × Value)} {st : List Value} {Q : zO → zMem → Prop}
theorem zRp.avf {r : Nat} (h : zRp Z Λ S M) (hl : zlv (sc S) r) : aI M (Λ r) = sW S r := funext fun _ => h.av hl
/-- a whole int row written -/
theorem zRp.sAIr {s : Nat} {f : Nat → Int32} (h : zRp Z Λ S M) (hl : zlv (sc S) s) : zRp Z Λ (sc S, sV S, u1 (sW S) s f, sT S, sP S) (sAIr M (Λ s) f) := by
  have he : ∀ r, zlv (sc S) r → (Λ r = Λ s ↔ r = s) := fun r hr => h.eq hr hl
  have hm := h.mk hl
  obtain ⟨b1, b2, b3, b4, ⟨b5, b6⟩, b7, b8, ⟨b9, b10⟩, b11⟩ := h
  refine ⟨b1, b2, b3, b4, ⟨b5, fun r j hr => ?_⟩, b7, b8, ⟨b9, fun h9 => by
    obtain ⟨c1, c2, c3, c4⟩ := b10 h9
    have hne : sP S 1002 ≠ Λ s := fun e => by
      rw [e, hm] at c3
      exact zlv_42 hl c3
    refine ⟨c1, c2, c3, fun x hx => ?_⟩
    show u1 (aI M) (Λ s) f (sP S 1002) x = _
    unfold u1
    rw [if_neg hne]
    exact c4 x hx⟩, b11⟩
  show u1 (aI M) (Λ s) f (Λ r) j = u1 (sW S) s f r j
  unfold u1
  by_cases h : Λ r = Λ s
  · rw [if_pos h, if_pos ((he r hr).mp h)]
  · rw [if_neg h, if_neg (fun q => h ((he r hr).mpr q))]
    exact b6 r j hr
theorem zw_copy {r0 r : Nat} {sp dp k9 : Int32} (hd : decode (zMC mm) pc = .ok (.invokestatic ix, 3)) (hw : zCpy (zMY mm).cls ix) (hR : zRp Z Λ S M) (hl0 : zlv (sc S) r0) (hl : zlv (sc S) r) (hK0 : mK M (Λ r0) = 1) (hK : mK M (Λ r) = 1) (h1 : ¬ sp < 0) (h2 : ¬ dp < 0) (h3 : ¬ k9 < 0) (h4 : sp.toNatClampNeg + k9.toNatClampNeg ≤ mN M (Λ r0)) (h5 : dp.toNatClampNeg + k9.toNatClampNeg ≤ mN M (Λ r)) (hst : st.length ≤ 20) (hn : pc + 3 = n)
    (k : ∀ M', zRp Z Λ (sc S, sV S, u1 (sW S) r (va_cpy (sW S r0) (sW S r) sp.toNatClampNeg dp.toNatClampNeg k9.toNatClampNeg), sT S, sP S) M' → vR M' = vR M → zX Z l d mm n L st M' nc ns Q) : zX Z l d mm pc L (.int k9 :: .int dp :: .ref (Λ r) :: .int sp :: .ref (Λ r0) :: st) M nc ns Q := by
  refine zs_copyI hd hw hK0 hK h1 h2 h3 h4 h5 hst hn ?_
  rw [hR.avf hl0, hR.avf hl]
  exact k _ (hR.sAIr hl) rfl
theorem c_passersIn {i mi : Nat} (hR : zRp Z Λ S M) (hi : i < sc S 0) (h6 : 600 ≤ mi) (h12 : mi < 1200) : zD Z l 1 mth_X6_passersIn [.ref (Λ (100 + i)), .int (nI mi)] M 0 0 (some (.int (fPass S i mi))) M := by
  intro Q hQ
  show zX Z l 1 mth_X6_passersIn 0 [(0, .ref (Λ (100 + i))), (1, .int (nI mi))] [] M 0 0 Q
  refine zs_iload_n (n := 1) dX6_passersIn_0 rfl rfl ?_
  refine zs_bipush (v := 60) (n := 3) dX6_passersIn_1 (by decide) rfl ?_
  refine zs_idiv (n := 4) dX6_passersIn_3 (by decide) rfl ?_
  refine zs_bipush (v := 10) (n := 6) dX6_passersIn_4 (by decide) rfl ?_
  refine zs_isub (n := 7) dX6_passersIn_6 rfl ?_
  rw [show (nI mi / 60 - 10 : Int32) = nI (mi / 60 - 10) from by rw [show (60 : Int32) = nI 60 from rfl, show (10 : Int32) = nI 10 from rfl, pk_div (by omega) (by omega) (by omega), pk_sub (by omega)]]
  refine zs_istore_n (n := 8) dX6_passersIn_7 (by decide) rfl ?_
  refine zs_iload_n (n := 9) dX6_passersIn_8 rfl rfl ?_
  refine zs_aload_n (n := 10) dX6_passersIn_9 rfl rfl ?_
  refine zs_getr (b := (Λ (110 + i))) (n := 13) dX6_passersIn_10 gf_X6_22 (hR.kP hi) (hR.pQ hi) rfl ?_
  refine zs_alen (n := 14) dX6_passersIn_13 (by rw [show mK M (Λ (110 + i)) = 1 from (hR.kQ hi)]; decide) rfl ?_
  rw [show mN M (Λ (110 + i)) = 10 from (hR.nQ hi)]
  refine zc_SN (n := 17) (As := [.int (nI (mi / 60 - 10)), .int (nI 10)]) (mc := 0) (ms := 0) dX6_passersIn_14 ok_X11_isIndex ⟨ml_X6_33, st_X11_isIndex⟩ rfl (Nat.le_of_ble_eq_true rfl) (by simp) (by omega) (Nat.le_refl _) (Nat.le_refl _) rfl rfl m_isIndex ?_
  refine zs_if_ne (tgt := 22) (n := 20) dX6_passersIn_17 (by decide) rfl (fun _ => ?_) (fun h => absurd h (by simp [zb, nI_pos (show mi / 60 - 10 < 2 ^ 31 from by omega), nI_ge (show mi / 60 - 10 < 10 from by omega) (by omega)]))
  refine zs_iload_n (n := 23) dX6_passersIn_22 rfl rfl ?_
  refine zs_bipush (v := 60) (n := 25) dX6_passersIn_23 (by decide) rfl ?_
  refine zs_irem (n := 26) dX6_passersIn_25 (by decide) rfl ?_
  rw [show (nI mi - nI mi / 60 * 60 : Int32) = nI (mi % 60) from pk_rem (d := 60) (by omega) (by omega) (by omega)]
  refine zs_istore_n (n := 27) dX6_passersIn_26 (by decide) rfl ?_
  refine zs_aload_n (n := 28) dX6_passersIn_27 rfl rfl ?_
  refine zs_getr (b := (Λ (110 + i))) (n := 31) dX6_passersIn_28 gf_X6_22 (hR.kP hi) (hR.pQ hi) rfl ?_
  refine zs_iload_n (n := 32) dX6_passersIn_31 rfl rfl ?_
  refine zs_ialdv (x := (sW S (110 + i) (mi / 60 - 10))) (n := 33) dX6_passersIn_32 (hR.kQ hi) (by rw [show mN M (Λ (110 + i)) = 10 from (hR.nQ hi)]; exact vp_in_nI (by first | exact (show mi / 60 - 10 < 10 from by omega) | omega) (by omega)) (by rw [nI_clamp (by omega)]; exact hR.av (lvQ hi)) rfl ?_
  refine zs_istore (n := 35) dX6_passersIn_33 (by decide) rfl ?_
  refine zs_iload (n := 37) dX6_passersIn_35 rfl rfl ?_
  refine zs_iload_n (n := 38) dX6_passersIn_37 rfl rfl ?_
  refine zs_iconst (v := 1) (n := 39) dX6_passersIn_38 (by decide) rfl ?_
  refine zs_iadd (n := 40) dX6_passersIn_39 rfl ?_
  refine zs_imul (n := 41) dX6_passersIn_40 rfl ?_
  refine zs_bipush (v := 60) (n := 43) dX6_passersIn_41 (by decide) rfl ?_
  refine zs_idiv (n := 44) dX6_passersIn_43 (by decide) rfl ?_
  refine zs_iload (n := 46) dX6_passersIn_44 rfl rfl ?_
  refine zs_iload_n (n := 47) dX6_passersIn_46 rfl rfl ?_
  refine zs_imul (n := 48) dX6_passersIn_47 rfl ?_
  refine zs_bipush (v := 60) (n := 50) dX6_passersIn_48 (by decide) rfl ?_
  refine zs_idiv (n := 51) dX6_passersIn_50 (by decide) rfl ?_
  refine zs_isub (n := 52) dX6_passersIn_51 rfl ?_
  refine zs_ireturn dX6_passersIn_52 ⟨_, rfl, rfl⟩ ?_
  exact hQ
def fHas (S : zSt) (x : Int32) (y : Nat) : Bool := decide (¬ sW S 9 y &&& zbit x = 0)
def fLd (S : zSt) (n : Nat) (f : Int32) : Int32 := zit (fun i f => f ||| (if f &&& zbit (nI i) = 0 then 0 else sW S 9 i)) n f
def fLead (S : zSt) (y : Nat) (n : Nat) : Int32 := zit (fun _ f => fLd S 8 f) n (sW S 9 y)
theorem c_has {x : Int32} {y : Nat} (hR : zRp Z Λ S M) (h3 : sc S 3 = 1) (hy : y < 8) : zD Z l 0 mth_X1_has [.ref (Λ 3), .int x, .int (nI y)] M 0 0 (some (.int (zb (fHas S x y)))) M := by
  intro Q hQ
  show zX Z l 0 mth_X1_has 0 [(0, .ref (Λ 3)), (1, .int x), (2, .int (nI y))] [] M 0 0 Q
  refine zs_aload_n (n := 1) dX1_has_0 rfl rfl ?_
  refine zs_getr (b := (Λ 9)) (n := 4) dX1_has_1 gf_X1_9 (hR.kd (lvC h3 (by omega))) (hR.pt (lvC h3 (by omega)) rfl (by decide)) rfl ?_
  refine zs_iload_n (n := 5) dX1_has_4 rfl rfl ?_
  refine zs_ialdv (x := (sW S 9 y)) (n := 6) dX1_has_5 (hR.kd (lvC h3 (by omega))) (by rw [show mN M (Λ 9) = 8 from (hR.ln (lvC h3 (by omega)) rfl (by decide))]; exact vp_in_nI (by first | exact hy | omega) (by omega)) (by rw [nI_clamp (by omega)]; exact hR.av (lvC h3 (by omega))) rfl ?_
  refine zs_iconst (v := 1) (n := 7) dX1_has_6 (by decide) rfl ?_
  refine zs_iload_n (n := 8) dX1_has_7 rfl rfl ?_
  refine zs_ishl (n := 9) dX1_has_8 rfl ?_
  refine zs_iand (n := 10) dX1_has_9 rfl ?_
  refine zs_if_eq (tgt := 17) (n := 13) dX1_has_10 (by decide) rfl (fun h10 => ?_) (fun h10 => ?_)
  · refine zs_iconst (v := 0) (n := 18) dX1_has_17 (by decide) rfl ?_
    refine zs_ireturn dX1_has_18 ⟨_, rfl, rfl⟩ ?_
    unfold fHas at hQ
    first | (rw [show zb (decide (¬ sW S 9 y &&& zbit x = 0)) = 0 from by simp only [zb, *, decide_true, decide_false, not_true_eq_false, not_false_eq_true, Bool.and_true, Bool.and_false, Bool.true_and, Bool.false_and, cond_true, cond_false]] at hQ; exact hQ) | (rw [show zb (decide (¬ sW S 9 y &&& zbit x = 0)) = 1 from by simp only [zb, *, decide_true, decide_false, not_true_eq_false, not_false_eq_true, Bool.and_true, Bool.and_false, Bool.true_and, Bool.false_and, cond_true, cond_false]] at hQ; exact hQ)
  · refine zs_iconst (v := 1) (n := 14) dX1_has_13 (by decide) rfl ?_
    refine zs_goto (tgt := 18) dX1_has_14 (by decide) ?_
    refine zs_ireturn dX1_has_18 ⟨_, rfl, rfl⟩ ?_
    unfold fHas at hQ
    first | (rw [show zb (decide (¬ sW S 9 y &&& zbit x = 0)) = 0 from by simp only [zb, *, decide_true, decide_false, not_true_eq_false, not_false_eq_true, Bool.and_true, Bool.and_false, Bool.true_and, Bool.false_and, cond_true, cond_false]] at hQ; exact hQ) | (rw [show zb (decide (¬ sW S 9 y &&& zbit x = 0)) = 1 from by simp only [zb, *, decide_true, decide_false, not_true_eq_false, not_false_eq_true, Bool.and_true, Bool.and_false, Bool.true_and, Bool.false_and, cond_true, cond_false]] at hQ; exact hQ)
theorem c_put {x : Int32} {y : Nat} (hR : zRp Z Λ S M) (h3 : sc S 3 = 1) (hy : y < 8) : zG Z l 0 mth_X1_put [.ref (Λ 3), .int x, .int (nI y)] M 0 0 none (zRp Z Λ (sc S, sV S, u2 (sW S) 9 y (sW S 9 y ||| zbit x), sT S, sP S)) := by
  intro Q hQ
  show zX Z l 0 mth_X1_put 0 [(0, .ref (Λ 3)), (1, .int x), (2, .int (nI y))] [] M 0 0 Q
  refine zs_aload_n (n := 1) dX1_put_0 rfl rfl ?_
  refine zs_getr (b := (Λ 9)) (n := 4) dX1_put_1 gf_X1_9 (hR.kd (lvC h3 (by omega))) (hR.pt (lvC h3 (by omega)) rfl (by decide)) rfl ?_
  refine zs_iload_n (n := 5) dX1_put_4 rfl rfl ?_
  refine zs_dup2 (n := 6) dX1_put_5 rfl rfl rfl ?_
  refine zs_ialdv (x := (sW S 9 y)) (n := 7) dX1_put_6 (hR.kd (lvC h3 (by omega))) (by rw [show mN M (Λ 9) = 8 from (hR.ln (lvC h3 (by omega)) rfl (by decide))]; exact vp_in_nI (by first | exact hy | omega) (by omega)) (by rw [nI_clamp (by omega)]; exact hR.av (lvC h3 (by omega))) rfl ?_
  refine zs_iconst (v := 1) (n := 8) dX1_put_7 (by decide) rfl ?_
  refine zs_iload_n (n := 9) dX1_put_8 rfl rfl ?_
  refine zs_ishl (n := 10) dX1_put_9 rfl ?_
  refine zs_ior (n := 11) dX1_put_10 rfl ?_
  refine zw_ai (r := 9) (n := 12) dX1_put_11 hR (lvC h3 (by omega)) (hR.kd (lvC h3 (by omega))) (by rw [show mN M (Λ 9) = 8 from (hR.ln (lvC h3 (by omega)) rfl (by decide))]; exact vp_in_nI (by first | exact hy | omega) (by omega)) rfl ?_
  rw [nI_clamp (by omega)]
  intro M hR hv
  refine zs_return dX1_put_12 rfl ?_
  exact hQ _ hR
theorem c_take {x : Int32} {y : Nat} (hR : zRp Z Λ S M) (h3 : sc S 3 = 1) (hy : y < 8) : zG Z l 0 mth_X1_take [.ref (Λ 3), .int x, .int (nI y)] M 0 0 none (zRp Z Λ (sc S, sV S, u2 (sW S) 9 y (sW S 9 y &&& (zbit x ^^^ (-1))), sT S, sP S)) := by
  intro Q hQ
  show zX Z l 0 mth_X1_take 0 [(0, .ref (Λ 3)), (1, .int x), (2, .int (nI y))] [] M 0 0 Q
  refine zs_aload_n (n := 1) dX1_take_0 rfl rfl ?_
  refine zs_getr (b := (Λ 9)) (n := 4) dX1_take_1 gf_X1_9 (hR.kd (lvC h3 (by omega))) (hR.pt (lvC h3 (by omega)) rfl (by decide)) rfl ?_
  refine zs_iload_n (n := 5) dX1_take_4 rfl rfl ?_
  refine zs_dup2 (n := 6) dX1_take_5 rfl rfl rfl ?_
  refine zs_ialdv (x := (sW S 9 y)) (n := 7) dX1_take_6 (hR.kd (lvC h3 (by omega))) (by rw [show mN M (Λ 9) = 8 from (hR.ln (lvC h3 (by omega)) rfl (by decide))]; exact vp_in_nI (by first | exact hy | omega) (by omega)) (by rw [nI_clamp (by omega)]; exact hR.av (lvC h3 (by omega))) rfl ?_
  refine zs_iconst (v := 1) (n := 8) dX1_take_7 (by decide) rfl ?_
  refine zs_iload_n (n := 9) dX1_take_8 rfl rfl ?_
  refine zs_ishl (n := 10) dX1_take_9 rfl ?_
  refine zs_iconst (v := -1) (n := 11) dX1_take_10 (by decide) rfl ?_
  refine zs_ixor (n := 12) dX1_take_11 rfl ?_
  refine zs_iand (n := 13) dX1_take_12 rfl ?_
  refine zw_ai (r := 9) (n := 14) dX1_take_13 hR (lvC h3 (by omega)) (hR.kd (lvC h3 (by omega))) (by rw [show mN M (Λ 9) = 8 from (hR.ln (lvC h3 (by omega)) rfl (by decide))]; exact vp_in_nI (by first | exact hy | omega) (by omega)) rfl ?_
  rw [nI_clamp (by omega)]
  intro M hR hv
  refine zs_return dX1_take_14 rfl ?_
  exact hQ _ hR
theorem c_leads {x : Int32} {y : Nat} (hR : zRp Z Λ S M) (h3 : sc S 3 = 1) (hy : y < 8) : zD Z l 0 mth_X1_leads [.ref (Λ 3), .int x, .int (nI y)] M 0 0 (some (.int (zb (decide (¬ fLead S y 8 &&& zbit x = 0))))) M := by
  intro Q hQ
  show zX Z l 0 mth_X1_leads 0 [(0, .ref (Λ 3)), (1, .int x), (2, .int (nI y))] [] M 0 0 Q
  refine zs_aload_n (n := 1) dX1_leads_0 rfl rfl ?_
  refine zs_getr (b := (Λ 9)) (n := 4) dX1_leads_1 gf_X1_9 (hR.kd (lvC h3 (by omega))) (hR.pt (lvC h3 (by omega)) rfl (by decide)) rfl ?_
  refine zs_iload_n (n := 5) dX1_leads_4 rfl rfl ?_
  refine zs_ialdv (x := (sW S 9 y)) (n := 6) dX1_leads_5 (hR.kd (lvC h3 (by omega))) (by rw [show mN M (Λ 9) = 8 from (hR.ln (lvC h3 (by omega)) rfl (by decide))]; exact vp_in_nI (by first | exact hy | omega) (by omega)) (by rw [nI_clamp (by omega)]; exact hR.av (lvC h3 (by omega))) rfl ?_
  refine zs_istore_n (n := 7) dX1_leads_6 (by decide) rfl ?_
  refine zs_iconst (v := 0) (n := 8) dX1_leads_7 (by decide) rfl ?_
  refine zs_istore (n := 10) dX1_leads_8 (by decide) rfl ?_
  refine zX.sub (L' := [(0, .ref (Λ 3)), (1, .int x), (2, .int (nI y)), (3, .int (fLead S y 0)), (4, .int (nI 0))]) ⟨rfl, rfl, rfl, rfl, rfl, trivial⟩ ?_
  refine zloop (n := 8) (X := fun j => zX Z l 0 mth_X1_leads 10 [(0, .ref (Λ 3)), (1, .int x), (2, .int (nI y)), (3, .int (fLead S y j)), (4, .int (nI j))] [] M 0 0 Q) (fun j hj ih => ?_) ?_ 0 (Nat.zero_le _)
  · refine zs_iload (n := 12) dX1_leads_10 rfl rfl ?_
    refine zs_bipush (v := 8) (n := 14) dX1_leads_12 (by decide) rfl ?_
    refine zs_icmp_ge (tgt := 62) (n := 17) dX1_leads_14 (by decide) rfl (fun h => absurd h (nI_ge (b := 8) hj (by omega))) (fun _ => ?_)
    refine zs_iconst (v := 0) (n := 18) dX1_leads_17 (by decide) rfl ?_
    refine zs_istore (n := 20) dX1_leads_18 (by decide) rfl ?_
    refine zX.sub (L' := [(0, .ref (Λ 3)), (1, .int x), (2, .int (nI y)), (3, .int (fLd S 0 (fLead S y j))), (4, .int (nI j)), (5, .int (nI 0))]) ⟨rfl, rfl, rfl, rfl, rfl, rfl, trivial⟩ ?_
    refine zloop (n := 8) (X := fun k => zX Z l 0 mth_X1_leads 20 [(0, .ref (Λ 3)), (1, .int x), (2, .int (nI y)), (3, .int (fLd S k (fLead S y j))), (4, .int (nI j)), (5, .int (nI k))] [] M 0 0 Q) (fun k hk ih => ?_) ?_ 0 (Nat.zero_le _)
    · refine zs_iload (n := 22) dX1_leads_20 rfl rfl ?_
      refine zs_bipush (v := 8) (n := 24) dX1_leads_22 (by decide) rfl ?_
      refine zs_icmp_ge (tgt := 56) (n := 27) dX1_leads_24 (by decide) rfl (fun h => absurd h (nI_ge (b := 8) hk (by omega))) (fun _ => ?_)
      refine zs_iload_n (n := 28) dX1_leads_27 rfl rfl ?_
      refine zs_iload_n (n := 29) dX1_leads_28 rfl rfl ?_
      refine zs_iconst (v := 1) (n := 30) dX1_leads_29 (by decide) rfl ?_
      refine zs_iload (n := 32) dX1_leads_30 rfl rfl ?_
      refine zs_ishl (n := 33) dX1_leads_32 rfl ?_
      refine zs_iand (n := 34) dX1_leads_33 rfl ?_
      refine zs_if_eq (tgt := 47) (n := 37) dX1_leads_34 (by decide) rfl (fun h34 => ?_) (fun h34 => ?_)
      · refine zs_iconst (v := 0) (n := 48) dX1_leads_47 (by decide) rfl ?_
        refine zs_ior (n := 49) dX1_leads_48 rfl ?_
        refine zs_istore_n (n := 50) dX1_leads_49 (by decide) rfl ?_
        refine zs_iinc (v := (nI (k + 1))) (n := 53) dX1_leads_50 rfl (nI_1 _) (by decide) rfl ?_
        refine zs_goto (tgt := 20) dX1_leads_53 (by decide) ?_
        refine zX.sub (L' := [(0, .ref (Λ 3)), (1, .int x), (2, .int (nI y)), (3, .int (fLd S (k + 1) (fLead S y j))), (4, .int (nI j)), (5, .int (nI (k + 1)))]) ⟨rfl, rfl, rfl, (show some (Value.int ((fLd S k (fLead S y j)) ||| (0 : Int32))) = some (Value.int (fLd S (k + 1) (fLead S y j))) from congrArg (fun z => some (Value.int z)) (by rw [show fLd S (k + 1) (fLead S y j) = fLd S k (fLead S y j) ||| (if fLd S k (fLead S y j) &&& zbit (nI k) = 0 then 0 else sW S 9 k) from rfl]; first | rw [if_pos h34] | rw [if_neg h34])), rfl, rfl, trivial⟩ ?_
        exact ih
      · refine zs_aload_n (n := 38) dX1_leads_37 rfl rfl ?_
        refine zs_getr (b := (Λ 9)) (n := 41) dX1_leads_38 gf_X1_9 (hR.kd (lvC h3 (by omega))) (hR.pt (lvC h3 (by omega)) rfl (by decide)) rfl ?_
        refine zs_iload (n := 43) dX1_leads_41 rfl rfl ?_
        refine zs_ialdv (x := (sW S 9 k)) (n := 44) dX1_leads_43 (hR.kd (lvC h3 (by omega))) (by rw [show mN M (Λ 9) = 8 from (hR.ln (lvC h3 (by omega)) rfl (by decide))]; exact vp_in_nI (by first | exact hk | omega) (by omega)) (by rw [nI_clamp (by omega)]; exact hR.av (lvC h3 (by omega))) rfl ?_
        refine zs_goto (tgt := 48) dX1_leads_44 (by decide) ?_
        refine zs_ior (n := 49) dX1_leads_48 rfl ?_
        refine zs_istore_n (n := 50) dX1_leads_49 (by decide) rfl ?_
        refine zs_iinc (v := (nI (k + 1))) (n := 53) dX1_leads_50 rfl (nI_1 _) (by decide) rfl ?_
        refine zs_goto (tgt := 20) dX1_leads_53 (by decide) ?_
        refine zX.sub (L' := [(0, .ref (Λ 3)), (1, .int x), (2, .int (nI y)), (3, .int (fLd S (k + 1) (fLead S y j))), (4, .int (nI j)), (5, .int (nI (k + 1)))]) ⟨rfl, rfl, rfl, (show some (Value.int ((fLd S k (fLead S y j)) ||| (sW S 9 k))) = some (Value.int (fLd S (k + 1) (fLead S y j))) from congrArg (fun z => some (Value.int z)) (by rw [show fLd S (k + 1) (fLead S y j) = fLd S k (fLead S y j) ||| (if fLd S k (fLead S y j) &&& zbit (nI k) = 0 then 0 else sW S 9 k) from rfl]; first | rw [if_pos h34] | rw [if_neg h34])), rfl, rfl, trivial⟩ ?_
        exact ih
    · refine zs_iload (n := 22) dX1_leads_20 rfl rfl ?_
      refine zs_bipush (v := 8) (n := 24) dX1_leads_22 (by decide) rfl ?_
      refine zs_icmp_ge (tgt := 56) (n := 27) dX1_leads_24 (by decide) rfl (fun _ => ?_) (fun h => absurd (nI_le (a := 8) (b := 8) (Nat.le_refl _) (by omega)) h)
      refine zs_iinc (v := (nI (j + 1))) (n := 59) dX1_leads_56 rfl (nI_1 _) (by decide) rfl ?_
      refine zs_goto (tgt := 10) dX1_leads_59 (by decide) ?_
      refine zX.sub (L' := [(0, .ref (Λ 3)), (1, .int x), (2, .int (nI y)), (3, .int (fLead S y (j + 1))), (4, .int (nI (j + 1)))]) ⟨rfl, rfl, rfl, rfl, rfl, trivial⟩ ?_
      exact ih
  · refine zs_iload (n := 12) dX1_leads_10 rfl rfl ?_
    refine zs_bipush (v := 8) (n := 14) dX1_leads_12 (by decide) rfl ?_
    refine zs_icmp_ge (tgt := 62) (n := 17) dX1_leads_14 (by decide) rfl (fun _ => ?_) (fun h => absurd (nI_le (a := 8) (b := 8) (Nat.le_refl _) (by omega)) h)
    refine zs_iload_n (n := 63) dX1_leads_62 rfl rfl ?_
    refine zs_iconst (v := 1) (n := 64) dX1_leads_63 (by decide) rfl ?_
    refine zs_iload_n (n := 65) dX1_leads_64 rfl rfl ?_
    refine zs_ishl (n := 66) dX1_leads_65 rfl ?_
    refine zs_iand (n := 67) dX1_leads_66 rfl ?_
    refine zs_if_eq (tgt := 74) (n := 70) dX1_leads_67 (by decide) rfl (fun h67 => ?_) (fun h67 => ?_)
    · refine zs_iconst (v := 0) (n := 75) dX1_leads_74 (by decide) rfl ?_
      refine zs_ireturn dX1_leads_75 ⟨_, rfl, rfl⟩ ?_
      first | (rw [show zb (decide (¬ fLead S y 8 &&& zbit x = 0)) = 0 from by simp only [zb, *, decide_true, decide_false, not_true_eq_false, not_false_eq_true, Bool.and_true, Bool.and_false, Bool.true_and, Bool.false_and, cond_true, cond_false]] at hQ; exact hQ) | (rw [show zb (decide (¬ fLead S y 8 &&& zbit x = 0)) = 1 from by simp only [zb, *, decide_true, decide_false, not_true_eq_false, not_false_eq_true, Bool.and_true, Bool.and_false, Bool.true_and, Bool.false_and, cond_true, cond_false]] at hQ; exact hQ)
    · refine zs_iconst (v := 1) (n := 71) dX1_leads_70 (by decide) rfl ?_
      refine zs_goto (tgt := 75) dX1_leads_71 (by decide) ?_
      refine zs_ireturn dX1_leads_75 ⟨_, rfl, rfl⟩ ?_
      first | (rw [show zb (decide (¬ fLead S y 8 &&& zbit x = 0)) = 0 from by simp only [zb, *, decide_true, decide_false, not_true_eq_false, not_false_eq_true, Bool.and_true, Bool.and_false, Bool.true_and, Bool.false_and, cond_true, cond_false]] at hQ; exact hQ) | (rw [show zb (decide (¬ fLead S y 8 &&& zbit x = 0)) = 1 from by simp only [zb, *, decide_true, decide_false, not_true_eq_false, not_false_eq_true, Bool.and_true, Bool.and_false, Bool.true_and, Bool.false_and, cond_true, cond_false]] at hQ; exact hQ)
def fNext (S : zSt) (a : Nat) (p : Int32) : Bool := decide (p &&& zbit (nI a) = 0) && decide (sW S 9 a &&& (p ^^^ (-1)) = 0)
theorem c_isNext {a : Nat} {p : Int32} (hR : zRp Z Λ S M) (h3 : sc S 3 = 1) (ha : a < 8) : zD Z l 0 mth_X1_isNext [.ref (Λ 3), .int (nI a), .int p] M 0 0 (some (.int (zb (fNext S a p)))) M := by
  intro Q hQ
  show zX Z l 0 mth_X1_isNext 0 [(0, .ref (Λ 3)), (1, .int (nI a)), (2, .int p)] [] M 0 0 Q
  refine zs_iload_n (n := 1) dX1_isNext_0 rfl rfl ?_
  refine zs_iconst (v := 1) (n := 2) dX1_isNext_1 (by decide) rfl ?_
  refine zs_iload_n (n := 3) dX1_isNext_2 rfl rfl ?_
  refine zs_ishl (n := 4) dX1_isNext_3 rfl ?_
  refine zs_iand (n := 5) dX1_isNext_4 rfl ?_
  refine zs_if_ne (tgt := 25) (n := 8) dX1_isNext_5 (by decide) rfl (fun h5 => ?_) (fun h5 => ?_)
  · refine zs_iconst (v := 0) (n := 26) dX1_isNext_25 (by decide) rfl ?_
    refine zs_ireturn dX1_isNext_26 ⟨_, rfl, rfl⟩ ?_
    unfold fNext at hQ
    first | (rw [show zb (decide (p &&& zbit (nI a) = 0) && decide (sW S 9 a &&& (p ^^^ (-1)) = 0)) = 0 from by simp only [zb, *, decide_true, decide_false, not_true_eq_false, not_false_eq_true, Bool.and_true, Bool.and_false, Bool.true_and, Bool.false_and, cond_true, cond_false]] at hQ; exact hQ) | (rw [show zb (decide (p &&& zbit (nI a) = 0) && decide (sW S 9 a &&& (p ^^^ (-1)) = 0)) = 1 from by simp only [zb, *, decide_true, decide_false, not_true_eq_false, not_false_eq_true, Bool.and_true, Bool.and_false, Bool.true_and, Bool.false_and, cond_true, cond_false]] at hQ; exact hQ)
  · refine zs_aload_n (n := 9) dX1_isNext_8 rfl rfl ?_
    refine zs_getr (b := (Λ 9)) (n := 12) dX1_isNext_9 gf_X1_9 (hR.kd (lvC h3 (by omega))) (hR.pt (lvC h3 (by omega)) rfl (by decide)) rfl ?_
    refine zs_iload_n (n := 13) dX1_isNext_12 rfl rfl ?_
    refine zs_ialdv (x := (sW S 9 a)) (n := 14) dX1_isNext_13 (hR.kd (lvC h3 (by omega))) (by rw [show mN M (Λ 9) = 8 from (hR.ln (lvC h3 (by omega)) rfl (by decide))]; exact vp_in_nI (by first | exact ha | omega) (by omega)) (by rw [nI_clamp (by omega)]; exact hR.av (lvC h3 (by omega))) rfl ?_
    refine zs_iload_n (n := 15) dX1_isNext_14 rfl rfl ?_
    refine zs_iconst (v := -1) (n := 16) dX1_isNext_15 (by decide) rfl ?_
    refine zs_ixor (n := 17) dX1_isNext_16 rfl ?_
    refine zs_iand (n := 18) dX1_isNext_17 rfl ?_
    refine zs_if_ne (tgt := 25) (n := 21) dX1_isNext_18 (by decide) rfl (fun h18 => ?_) (fun h18 => ?_)
    · refine zs_iconst (v := 0) (n := 26) dX1_isNext_25 (by decide) rfl ?_
      refine zs_ireturn dX1_isNext_26 ⟨_, rfl, rfl⟩ ?_
      unfold fNext at hQ
      first | (rw [show zb (decide (p &&& zbit (nI a) = 0) && decide (sW S 9 a &&& (p ^^^ (-1)) = 0)) = 0 from by simp only [zb, *, decide_true, decide_false, not_true_eq_false, not_false_eq_true, Bool.and_true, Bool.and_false, Bool.true_and, Bool.false_and, cond_true, cond_false]] at hQ; exact hQ) | (rw [show zb (decide (p &&& zbit (nI a) = 0) && decide (sW S 9 a &&& (p ^^^ (-1)) = 0)) = 1 from by simp only [zb, *, decide_true, decide_false, not_true_eq_false, not_false_eq_true, Bool.and_true, Bool.and_false, Bool.true_and, Bool.false_and, cond_true, cond_false]] at hQ; exact hQ)
    · refine zs_iconst (v := 1) (n := 22) dX1_isNext_21 (by decide) rfl ?_
      refine zs_goto (tgt := 26) dX1_isNext_22 (by decide) ?_
      refine zs_ireturn dX1_isNext_26 ⟨_, rfl, rfl⟩ ?_
      unfold fNext at hQ
      first | (rw [show zb (decide (p &&& zbit (nI a) = 0) && decide (sW S 9 a &&& (p ^^^ (-1)) = 0)) = 0 from by simp only [zb, *, decide_true, decide_false, not_true_eq_false, not_false_eq_true, Bool.and_true, Bool.and_false, Bool.true_and, Bool.false_and, cond_true, cond_false]] at hQ; exact hQ) | (rw [show zb (decide (p &&& zbit (nI a) = 0) && decide (sW S 9 a &&& (p ^^^ (-1)) = 0)) = 1 from by simp only [zb, *, decide_true, decide_false, not_true_eq_false, not_false_eq_true, Bool.and_true, Bool.and_false, Bool.true_and, Bool.false_and, cond_true, cond_false]] at hQ; exact hQ)
def fFree (S : zSt) (a : Nat) (p : Int32) : Bool := decide (¬ p &&& zbit (nI a) = 0) && decide (sW S 12 a &&& p = 0)
theorem c_isFree {a : Nat} {p : Int32} (hR : zRp Z Λ S M) (h3 : sc S 3 = 1) (ha : a < 8) : zD Z l 0 mth_X5_isFree [.ref (Λ 4), .int (nI a), .int p] M 0 0 (some (.int (zb (fFree S a p)))) M := by
  intro Q hQ
  show zX Z l 0 mth_X5_isFree 0 [(0, .ref (Λ 4)), (1, .int (nI a)), (2, .int p)] [] M 0 0 Q
  refine zs_iload_n (n := 1) dX5_isFree_0 rfl rfl ?_
  refine zs_iconst (v := 1) (n := 2) dX5_isFree_1 (by decide) rfl ?_
  refine zs_iload_n (n := 3) dX5_isFree_2 rfl rfl ?_
  refine zs_ishl (n := 4) dX5_isFree_3 rfl ?_
  refine zs_iand (n := 5) dX5_isFree_4 rfl ?_
  refine zs_if_eq (tgt := 23) (n := 8) dX5_isFree_5 (by decide) rfl (fun h5 => ?_) (fun h5 => ?_)
  · refine zs_iconst (v := 0) (n := 24) dX5_isFree_23 (by decide) rfl ?_
    refine zs_ireturn dX5_isFree_24 ⟨_, rfl, rfl⟩ ?_
    unfold fFree at hQ
    first | (rw [show zb (decide (¬ p &&& zbit (nI a) = 0) && decide (sW S 12 a &&& p = 0)) = 0 from by simp only [zb, *, decide_true, decide_false, not_true_eq_false, not_false_eq_true, Bool.and_true, Bool.and_false, Bool.true_and, Bool.false_and, cond_true, cond_false]] at hQ; exact hQ) | (rw [show zb (decide (¬ p &&& zbit (nI a) = 0) && decide (sW S 12 a &&& p = 0)) = 1 from by simp only [zb, *, decide_true, decide_false, not_true_eq_false, not_false_eq_true, Bool.and_true, Bool.and_false, Bool.true_and, Bool.false_and, cond_true, cond_false]] at hQ; exact hQ)
  · refine zs_aload_n (n := 9) dX5_isFree_8 rfl rfl ?_
    refine zs_getr (b := (Λ 12)) (n := 12) dX5_isFree_9 gf_X5_15 (hR.kd (lvC h3 (by omega))) (hR.pt (lvC h3 (by omega)) rfl (by decide)) rfl ?_
    refine zs_iload_n (n := 13) dX5_isFree_12 rfl rfl ?_
    refine zs_ialdv (x := (sW S 12 a)) (n := 14) dX5_isFree_13 (hR.kd (lvC h3 (by omega))) (by rw [show mN M (Λ 12) = 8 from (hR.ln (lvC h3 (by omega)) rfl (by decide))]; exact vp_in_nI (by first | exact ha | omega) (by omega)) (by rw [nI_clamp (by omega)]; exact hR.av (lvC h3 (by omega))) rfl ?_
    refine zs_iload_n (n := 15) dX5_isFree_14 rfl rfl ?_
    refine zs_iand (n := 16) dX5_isFree_15 rfl ?_
    refine zs_if_ne (tgt := 23) (n := 19) dX5_isFree_16 (by decide) rfl (fun h16 => ?_) (fun h16 => ?_)
    · refine zs_iconst (v := 0) (n := 24) dX5_isFree_23 (by decide) rfl ?_
      refine zs_ireturn dX5_isFree_24 ⟨_, rfl, rfl⟩ ?_
      unfold fFree at hQ
      first | (rw [show zb (decide (¬ p &&& zbit (nI a) = 0) && decide (sW S 12 a &&& p = 0)) = 0 from by simp only [zb, *, decide_true, decide_false, not_true_eq_false, not_false_eq_true, Bool.and_true, Bool.and_false, Bool.true_and, Bool.false_and, cond_true, cond_false]] at hQ; exact hQ) | (rw [show zb (decide (¬ p &&& zbit (nI a) = 0) && decide (sW S 12 a &&& p = 0)) = 1 from by simp only [zb, *, decide_true, decide_false, not_true_eq_false, not_false_eq_true, Bool.and_true, Bool.and_false, Bool.true_and, Bool.false_and, cond_true, cond_false]] at hQ; exact hQ)
    · refine zs_iconst (v := 1) (n := 20) dX5_isFree_19 (by decide) rfl ?_
      refine zs_goto (tgt := 24) dX5_isFree_20 (by decide) ?_
      refine zs_ireturn dX5_isFree_24 ⟨_, rfl, rfl⟩ ?_
      unfold fFree at hQ
      first | (rw [show zb (decide (¬ p &&& zbit (nI a) = 0) && decide (sW S 12 a &&& p = 0)) = 0 from by simp only [zb, *, decide_true, decide_false, not_true_eq_false, not_false_eq_true, Bool.and_true, Bool.and_false, Bool.true_and, Bool.false_and, cond_true, cond_false]] at hQ; exact hQ) | (rw [show zb (decide (¬ p &&& zbit (nI a) = 0) && decide (sW S 12 a &&& p = 0)) = 1 from by simp only [zb, *, decide_true, decide_false, not_true_eq_false, not_false_eq_true, Bool.and_true, Bool.and_false, Bool.true_and, Bool.false_and, cond_true, cond_false]] at hQ; exact hQ)
def fFine (V : Nat → Nat → Int32) (r : Nat) (w x : Int32) : Nat → Nat → Int32 := u2 (u2 V r 450 (if V r 450 = 45 then w else V r 450)) r 451 (V r 451 + x)
end ZCUST
