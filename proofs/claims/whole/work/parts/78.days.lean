/-! THE DAYS: their list added to, its first taken away -/
section ZDAYS
variable {Z : zPar} {l : Launch} {Λ Λ2 : Nat → Nat} {S : zSt} {M M2 : zMem} {r s k i j a q p g : Nat} {c : Nat → Nat} {d : Nat} {mm : zMeth} {pc n nc ns ix nc1 ns1 e v : Nat} {L : List (Nat × Value)} {st : List Value} {Q : zO → zMem → Prop} {f : Nat → Nat} {V2 : Nat → Nat → Int32}
theorem zct_d {x : Nat} (hs : zlr s) (hne : s ≠ 1023) : zct (cset c 6 x) s = zct c s := by
  rw [zct_ci, zct_ci]
  exact cset_ne (fun e => hne (zci_inj hs (show zlr 1023 by unfold zlr; omega) e))
theorem zBnd.days (hb : zBnd c) (hn : n ≤ 11) : zBnd (cset c 6 n) := by
  obtain ⟨⟨h1, h2, h3, h4⟩, ⟨h5, h6, h7, h8, h9⟩, h10⟩ := hb
  exact ⟨⟨h1, h2, h3, fun i => by rw [cset_ne (by omega)]; exact h4 i⟩, ⟨h5, h6, h7, h8, hn⟩, fun i => by rw [cset_ne (by omega)]; exact h10 i⟩
/-- the days forgotten -/
theorem zRp_dz (h : zRp Z Λ S M) (h4 : sc S 4 = 1) : zRp Z Λ (cset (sc S) 6 0, sV S, sW S, sT S, sP S) (sI M (Λ 1023) 130 0) := by
  have hb := h.bnd
  have hl : zlv (sc S) 1023 := lvM h4 (by omega)
  have hb' : zBnd (cset (sc S) 6 0) := hb.days (by omega)
  have hp : mK M (Λ 1023) = 14 := h.kd hl
  have hag : ∀ a, a ≠ Λ 1023 → zAg M (sI M (Λ 1023) 130 0) a := fun a ha => ⟨rfl, rfl, rfl, u2_ne ha, rfl, rfl, rfl, rfl, rfl⟩
  have e10 : ∀ i, cset (sc S) 6 0 (10 + i) = sc S (10 + i) := fun i => cset_ne (by omega)
  refine zRp.of hb' (fun s hs => ?_) ⟨fun i hi => ?_, fun i hi => absurd (show i < cset (sc S) 6 0 6 from hi) (by rw [cset_at]; omega)⟩ ⟨h.outs.keep ⟨rfl, rfl⟩ rfl (fun _ => rfl) (fun a ha => hag a (fun e => by rw [e, hp] at ha; omega)), h.emp.keep (fun a ha => hag a (fun e => by rw [e, hp] at ha; omega))⟩
  · have hs0 : zlv (sc S) s := hs.of (fun k h6 _ => cset_ne h6) hb.1.1
    by_cases e : s = 1023
    · subst e
      obtain ⟨a1, ⟨a2, a3⟩, a4, -, ⟨a6, a7⟩, -, -⟩ := h.one hl
      obtain ⟨⟨l1, l2, l3, l4, l5⟩, l6⟩ := a4 rfl
      refine ⟨a1, ⟨a2, a3⟩, fun _ => ⟨?_, l6⟩, fun e => absurd e (by decide), ⟨fun k h1 h2 => (u2_nk h2).trans (a6 k h1 h2), a7⟩, fun i k hi hk e => ?_, fun j hj e => ?_⟩
      · refine ⟨l1, (u2_at : u2 (vI M) (Λ 1023) 130 0 (Λ 1023) 130 = 0), l3, ?_, fun i hi => absurd (show i < cset (sc S) 6 0 6 from hi) (by rw [cset_at]; omega)⟩
        rcases l4 with ⟨q1, q2, q3, q4⟩ | ⟨q1, q2, q3, q4⟩
        · exact Or.inl ⟨q1, q2, rfl, q4⟩
        · exact Or.inr ⟨q1, Nat.zero_le _, q3, q4⟩
      · exfalso
        have hk' : k < cset (sc S) 6 0 (10 + i) := hk
        have hi' : i < sc S 0 := hi
        rw [e10] at hk'
        have := hb.1.1
        have := hb.1.2.2.2 i
        omega
      · exfalso
        have hj' : j < sc S 2 := hj
        have := hb.1.2.2.1
        omega
    · refine (h.one hs0).keep hb hs0 (fun _ _ => rfl) (fun _ => rfl) (hag _ (h.ne hs0 hl e)) (fun hk2 => hag _ (fun e4 => ?_)) (fun hk2 => zct_d (zlr_of hk2) e) (fun _ _ _ => rfl) (fun _ => rfl) (fun i k hi hk e => ⟨hi, by have hk' : k < cset (sc S) 6 0 (10 + i) := hk; rw [e10] at hk'; exact hk', rfl, Nat.le_refl _⟩) (fun j hj e => ⟨hj, rfl, Nat.le_refl _⟩)
      have := (h.li hs0 hk2).row
      rw [e4, hp] at this
      omega
  · obtain ⟨q1, q2⟩ := h.ints.1 i hi
    have e := hag (Λ (1300 + i)) (fun e => by rw [e, hp] at q1; omega)
    unfold zIok
    rw [e.1, e.2.2.2.1]
    exact ⟨q1, q2⟩
/-- the days told anew -/
theorem zRp_days (h : zRp Z Λ S M) (h4 : sc S 4 = 1) (hn : n ≤ 11) (hΛ : ∀ s, s < 1320 → s ≠ 1024 → Λ2 s = Λ s) (hag : ∀ a, mK M a ≠ 0 → a ≠ Λ 1023 → (mK M a = 3 → mG M a ≠ 1024) → zAg M M2 a)
    (hp : mK M2 (Λ 1023) = 14 ∧ mG M2 (Λ 1023) = 1023 ∧ aI M2 (Λ 1023) = aI M (Λ 1023) ∧ ∀ k, k ≠ 128 → k ≠ 130 → vI M2 (Λ 1023) k = vI M (Λ 1023) k) (hL : zL Z M2 (Λ 1023) (Λ2 1024) n (fun i => Λ2 (1320 + i))) (hrw : zRwOk M2 (Λ2 1024) 1024)
    (hI : ∀ i, i < n → zIok Λ2 V2 M2 (1320 + i)) (hV : ∀ s, s < 1320 → V2 s = sV S s) : zRp Z Λ2 (cset (sc S) 6 n, V2, sW S, sT S, sP S) M2 := by
  have h0 := zRp_dz h h4
  have hb0 := h0.bnd
  have hb := h.bnd
  have hl : zlv (sc S) 1023 := lvM h4 (by omega)
  have hK : mK M (Λ 1023) = 14 := h.kd hl
  have e10 : ∀ i, cset (sc S) 6 n (10 + i) = sc S (10 + i) := fun i => cset_ne (by omega)
  have hag0 : ∀ a, mK M a ≠ 0 → a ≠ Λ 1023 → (mK M a = 3 → mG M a ≠ 1024) → zAg (sI M (Λ 1023) 130 0) M2 a := fun a h1 h2 h3 => by
    obtain ⟨a1, a2, a3, a4, a5, a6, a7, a8, a9⟩ := hag a h1 h2 h3
    exact ⟨a1, a2, a3, a4.trans (u2_ne h2).symm, a5, a6, a7, a8, a9⟩
  have hod : ∀ a, (mK M a = 2 ∨ mK M a = 5 ∨ mK M a = 6 ∨ mK M a = 7 ∨ mK M a = 8 ∨ mK M a = 11) → zAg M M2 a := fun a ha => hag a (by omega) (fun e => by rw [e, hK] at ha; omega) (fun h3 => by omega)
  refine zRp.of (hb.days hn) (fun s hs => ?_) ⟨fun i hi => ?_, fun i hi => hI i (show i < n by have h9 : i < cset (sc S) 6 n 6 := hi; rw [cset_at] at h9; exact h9)⟩ ⟨h.outs.keep ⟨hΛ 40 (by decide) (by decide), hΛ 41 (by decide) (by decide)⟩ rfl (fun _ => rfl) (fun a ha => hod a (by omega)), h.emp.keep (fun a ha => hod a (by omega))⟩
  · have hs0 : zlv (sc S) s := hs.of (fun k h6 _ => cset_ne h6) hb.1.1
    have hs1 : zlv (cset (sc S) 6 0) s := hs.of (c := cset (sc S) 6 0) (fun k h6 _ => (cset_ne h6).trans (cset_ne h6).symm) hb.1.1
    have hlt := hs0.lt hb
    by_cases e : s = 1023
    · subst e
      have eΛ : Λ2 1023 = Λ 1023 := hΛ 1023 (by decide) (by decide)
      obtain ⟨p1, p2, p3, p4⟩ := hp
      refine ⟨⟨by rw [eΛ]; exact p1, by rw [eΛ]; exact p2⟩, ⟨fun h => absurd rfl h, fun k hk => absurd (zpt_out (by omega) k) hk⟩, fun _ => ⟨?_, hrw⟩, fun e => absurd e (by decide), ⟨fun k h1 h2 => by rw [eΛ]; exact (p4 k h1 h2).trans ((h.iv hl h1 h2).trans (congrFun (hV 1023 (by decide)) k).symm), fun j => by rw [eΛ, p3]; exact h.av hl⟩, fun i k hi hk e => ?_, fun j hj e => ?_⟩
      · rw [eΛ]
        show zL Z M2 (Λ 1023) (Λ2 1024) (cset (sc S) 6 n 6) (fun i => Λ2 (1320 + i))
        rw [cset_at]
        exact hL
      · exfalso
        have hk' : k < cset (sc S) 6 n (10 + i) := hk
        have hi' : i < sc S 0 := hi
        rw [e10] at hk'
        have := hb.1.1
        have := hb.1.2.2.2 i
        omega
      · exfalso
        have hj' : j < sc S 2 := hj
        have := hb.1.2.2.1
        omega
    · refine (h0.one hs1).keep hb0 hs1 (fun s hs => ?_) (fun hk2 => ?_) (hag0 _ (h.k0 hs0) (h.ne hs0 hl e) (fun h3 h5 => ?_)) (fun hk2 => hag0 _ ?_ (fun e4 => ?_) (fun h3 h5 => ?_)) (fun hk2 => ?_) (fun k _ _ => congrFun (hV s (by omega)) k) (fun _ => rfl) (fun i k hi hk e => ⟨hi, by have hk' : k < cset (sc S) 6 n (10 + i) := hk; rw [e10] at hk'; show k < cset (sc S) 6 0 (10 + i); rw [cset_ne (by omega)]; exact hk', rfl, Nat.le_refl _⟩) (fun j hj e => ⟨hj, rfl, Nat.le_refl _⟩)
      · rcases hs with hs | ⟨i, hi, rfl⟩ | ⟨i, hi, rfl⟩
        · have := hs.lt hb0
          refine hΛ s (by omega) (fun e9 => ?_)
          subst e9
          have := hs.nrow hb0 (show zlr 1023 by unfold zlr; omega)
          exact this rfl
        · have hi' : i < sc S 1003 := hi
          have := hb.2.1.2.2.2.1
          exact hΛ _ (by omega) (by omega)
        · have hi' : i < cset (sc S) 6 0 6 := hi
          rw [cset_at] at hi'
          omega
      · have := zrw_out (zlr_of hk2)
        exact hΛ _ (by omega) (fun e9 => e (zrw_inj (zlr_of hk2) (show zlr 1023 by unfold zlr; omega) e9))
      · rw [h.mk hs0] at h5
        exact hs0.nrow hb (show zlr 1023 by unfold zlr; omega) h5
      · have := (h.li hs0 hk2).row
        omega
      · have := (h.li hs0 hk2).row
        rw [e4, hK] at this
        omega
      · have h6 := (h.rw hs0 hk2 h3).1
        rw [h6] at h5
        exact e (zrw_inj (zlr_of hk2) (show zlr 1023 by unfold zlr; omega) h5)
      · rw [show zct (sc (cset (sc S) 6 n, V2, sW S, sT S, sP S)) s = zct (sc S) s from zct_d (zlr_of hk2) e, show zct (sc (cset (sc S) 6 0, sV S, sW S, sT S, sP S)) s = zct (sc S) s from zct_d (zlr_of hk2) e]
  · obtain ⟨q1, q2⟩ := h.ints.1 i hi
    have hi8 : i < 8 := by
      have h9 : i < sc S 1003 := hi
      have := hb.2.1.2.2.2.1
      omega
    have e := hod (Λ (1300 + i)) (by omega)
    have eΛ : Λ2 (1300 + i) = Λ (1300 + i) := hΛ _ (by omega) (by omega)
    unfold zIok
    rw [eΛ, e.1, e.2.2.2.1]
    exact ⟨q1, q2.trans (congrFun (hV (1300 + i) (by omega)) 32).symm⟩
-- add to a row of ten that is full
abbrev zAddF (M : zMem) (p e q v g : Nat) : zMem := sI (sAR (sR (zCop (sI M p 128 (vI M p 128 + 1)) q e 15 g 10) p 129 (some q)) q 10 (some v)) p 130 11
theorem m_newLength : zD Z l 0 mth_J8_newLength_cabcc [.int (nI 10), .int (11 - nI 10), .int (nI 10 >>> (1 &&& 31))] M 0 0 (some (.int 15)) M := by
  intro Q hQ
  show zX Z l 0 mth_J8_newLength_cabcc 0 [(0, .int (nI 10)), (1, .int (11 - nI 10)), (2, .int (nI 10 >>> (1 &&& 31)))] [] M 0 0 Q
  refine zs_iload_n (n := 1) dJ8_newLength_cabcc_0 rfl rfl ?_
  refine zs_iload_n (n := 2) dJ8_newLength_cabcc_1 rfl rfl ?_
  refine zs_iload_n (n := 3) dJ8_newLength_cabcc_2 rfl rfl ?_
  refine zs_max (n := 6) dJ8_newLength_cabcc_3 w_max8 (by simp) rfl ?_
  rw [if_pos (by decide)]
  refine zs_iadd (n := 7) dJ8_newLength_cabcc_6 rfl ?_
  rw [show nI 10 + nI 10 >>> (1 &&& 31) = (15 : Int32) from by decide]
  refine zs_istore_n (n := 8) dJ8_newLength_cabcc_7 (by decide) rfl ?_
  refine zs_iconst (v := 0) (n := 9) dJ8_newLength_cabcc_8 (by decide) rfl ?_
  refine zs_iload_n (n := 10) dJ8_newLength_cabcc_9 rfl rfl ?_
  refine zs_icmp_ge (tgt := 21) (n := 13) dJ8_newLength_cabcc_10 (by decide) rfl (fun h => absurd h (by decide)) (fun _ => ?_)
  refine zs_iload_n (n := 14) dJ8_newLength_cabcc_13 rfl rfl ?_
  refine zs_ldc (n := 16) dJ8_newLength_cabcc_14 ct_J8_200 rfl ?_
  refine zs_icmp_gt (tgt := 21) (n := 19) dJ8_newLength_cabcc_16 (by decide) rfl (fun h => absurd h (by decide)) (fun _ => ?_)
  refine zs_iload_n (n := 20) dJ8_newLength_cabcc_19 rfl rfl ?_
  refine zs_ireturn dJ8_newLength_cabcc_20 ⟨_, rfl, rfl⟩ ?_
  exact hQ
theorem m_growF {ci : Nat} (hp : mK M p = 14) (h2 : vR M p 129 = some e) (h3 : mK M e = 3) (hN : mN M e = 10) (hel : ∀ i, i < 10 → ∀ y, aR M e i = some y → zCi M 1 y) (hQ : ∀ q, mK M q = 0 → Q (.inl (some (.ref q))) (sR (zCop M q e 15 g 10) p 129 (some q))) : zX Z l 2 mth_Jx4a65c_grow_92f84 0 (lv_args 0 [.ref p, .int 11]) [] M 1 15 Q := by
  show zX Z l 2 mth_Jx4a65c_grow_92f84 0 [(0, .ref p), (1, .int 11)] [] M 1 15 Q
  refine zs_aload_n (n := 1) dJx4a65c_grow_92f84_0 rfl rfl ?_
  refine zs_getr (n := 4) dJx4a65c_grow_92f84_1 gf_Jx4a65c_9 hp h2 rfl ?_
  refine zs_alen (n := 5) dJx4a65c_grow_92f84_4 (by omega) rfl ?_
  rw [hN]
  refine zs_istore_n (n := 6) dJx4a65c_grow_92f84_5 (by decide) rfl ?_
  refine zs_iload_n (n := 7) dJx4a65c_grow_92f84_6 rfl rfl ?_
  refine zs_if_gt (tgt := 20) (n := 10) dJx4a65c_grow_92f84_7 (by decide) rfl (fun _ => ?_) (fun h => absurd (by decide) h)
  refine zs_iload_n (n := 21) dJx4a65c_grow_92f84_20 rfl rfl ?_
  refine zs_iload_n (n := 22) dJx4a65c_grow_92f84_21 rfl rfl ?_
  refine zs_iload_n (n := 23) dJx4a65c_grow_92f84_22 rfl rfl ?_
  refine zs_isub (n := 24) dJx4a65c_grow_92f84_23 rfl ?_
  refine zs_iload_n (n := 25) dJx4a65c_grow_92f84_24 rfl rfl ?_
  refine zs_iconst (v := 1) (n := 26) dJx4a65c_grow_92f84_25 (by decide) rfl ?_
  refine zs_ishr (n := 27) dJx4a65c_grow_92f84_26 rfl ?_
  refine zc_S (n := 30) (As := [.int (nI 10), .int (11 - nI 10), .int (nI 10 >>> (1 &&& 31))]) (mc := 0) (ms := 0) (d' := 0) dJx4a65c_grow_92f84_27 ok_J8_newLength_cabcc ⟨ml_Jx4a65c_73, st_J8_newLength_cabcc⟩ rfl (Nat.le_of_ble_eq_true rfl) (by simp) (by omega) (Nat.le_refl _) (Nat.le_refl _) rfl rfl m_newLength ?_
  refine zs_istore_n (n := 31) dJx4a65c_grow_92f84_30 (by decide) rfl ?_
  refine zs_aload_n (n := 32) dJx4a65c_grow_92f84_31 rfl rfl ?_
  refine zs_aload_n (n := 33) dJx4a65c_grow_92f84_32 rfl rfl ?_
  refine zs_getr (n := 36) dJx4a65c_grow_92f84_33 gf_Jx4a65c_9 hp h2 rfl ?_
  refine zs_iload_n (n := 37) dJx4a65c_grow_92f84_36 rfl rfl ?_
  refine zs_invS (d' := 1) (As := [.ref e, .int (nI 15)]) (mc := 1) (ms := 15) (nc1 := 0) (ns1 := 0) (Post := fun o M1 => ∃ q, mK M q = 0 ∧ o = .inl (some (.ref q)) ∧ M1 = zCop M q e 15 g 10) (n := 40) dJx4a65c_grow_92f84_37 ok_J7_copyOf_1904c ⟨ml_Jx4a65c_66, st_J7_copyOf_1904c⟩ rfl (Nat.le_of_ble_eq_true rfl) (by simp) rfl (by omega) (by omega) rfl rfl (m_copyOf2 (ci := 1) g h3 (by omega) (by omega) rfl co_J6 (fun i hi y hy => hel i (by omega) y hy) (fun q hq => ⟨q, hq, rfl, by rw [hN]; rfl⟩)) (fun k9 M1 h => by obtain ⟨q, _, h, _⟩ := h; cases h) (fun v M1 h => ?_)
  obtain ⟨q, hq, h, rfl⟩ := h
  cases h
  have hp0 : mK M p ≠ 0 := by rw [hp]; decide
  have hpq : p ≠ q := fun h => hp0 (h ▸ hq)
  have hKp : mK (zCop M q e 15 g 10) p = 14 := (u1_ne hpq).trans hp
  refine zs_dup_x1 (n := 41) dJx4a65c_grow_92f84_40 rfl rfl rfl ?_
  refine zs_putr (n := 44) dJx4a65c_grow_92f84_41 pf_Jx4a65c_grow_92f84_9 hKp ⟨rfl, rfl⟩ rfl ?_
  refine zs_areturn dJx4a65c_grow_92f84_44 ⟨_, rfl, Or.inr ⟨_, rfl⟩⟩ ?_
  exact hQ q hq
theorem m_growF0 (hp : mK M p = 14) (h1 : vI M p 130 = nI 10) (h2 : vR M p 129 = some e) (h3 : mK M e = 3) (hN : mN M e = 10) (hel : ∀ i, i < 10 → ∀ y, aR M e i = some y → zCi M 1 y) (hQ : ∀ q, mK M q = 0 → Q (.inl (some (.ref q))) (sR (zCop M q e 15 g 10) p 129 (some q))) : zX Z l 3 mth_Jx4a65c_grow_d5877 0 (lv_args 0 [.ref p]) [] M 1 15 Q := by
  show zX Z l 3 mth_Jx4a65c_grow_d5877 0 [(0, .ref p)] [] M 1 15 Q
  refine zs_aload_n (n := 1) dJx4a65c_grow_d5877_0 rfl rfl ?_
  refine zs_aload_n (n := 2) dJx4a65c_grow_d5877_1 rfl rfl ?_
  refine zs_geti (n := 5) dJx4a65c_grow_d5877_2 gf_Jx4a65c_48 hp rfl ?_
  rw [h1]
  refine zs_iconst (v := 1) (n := 6) dJx4a65c_grow_d5877_5 (by decide) rfl ?_
  refine zs_iadd (n := 7) dJx4a65c_grow_d5877_6 rfl ?_
  rw [show nI 10 + 1 = (11 : Int32) from by decide]
  refine zs_invV (d' := 2) (nc1 := 0) (ns1 := 0) (n := 10) (As := [.int 11]) (ci := 4) (mc := 1) (ms := 15) (Post := fun o M' => ∃ q, mK M q = 0 ∧ o = .inl (some (.ref q)) ∧ M' = sR (zCop M q e 15 g 10) p 129 (some q)) dJx4a65c_grow_d5877_7 ok_Jx4a65c_grow_92f84 ⟨ml_Jx4a65c_69, im_Jx4a65c_grow_92f84, sl_Jx4a65c_grow_92f84⟩ rfl hp rfl (Nat.le_of_ble_eq_true rfl) (by simp) rfl (by omega) (by omega) rfl rfl (m_growF (ci := 1) hp h2 h3 hN hel (fun q hq => ⟨q, hq, rfl, rfl⟩)) (fun k M' h => by obtain ⟨q, _, h, _⟩ := h; cases h) (fun v M' h => ?_)
  obtain ⟨q, hq, h, rfl⟩ := h
  cases h
  refine zs_areturn dJx4a65c_grow_d5877_10 ⟨_, rfl, Or.inr ⟨_, rfl⟩⟩ ?_
  exact hQ q hq
theorem m_addF3 {v : Nat} (hp : mK M p = 14) (h1 : vI M p 130 = nI 10) (h2 : vR M p 129 = some e) (h3 : mK M e = 3) (hN : mN M e = 10) (hel : ∀ i, i < 10 → ∀ y, aR M e i = some y → zCi M 1 y) (hv : zOb M v) (hQ : ∀ q, mK M q = 0 → Q (.inl none) (sI (sAR (sR (zCop M q e 15 g 10) p 129 (some q)) q 10 (some v)) p 130 11)) : zX Z l 4 mth_Jx4a65c_add_72be8 0 (lv_args 0 [.ref p, .ref v, .ref e, .int (nI 10)]) [] M 1 15 Q := by
  show zX Z l 4 mth_Jx4a65c_add_72be8 0 [(0, .ref p), (1, .ref v), (2, .ref e), (3, .int (nI 10))] [] M 1 15 Q
  refine zs_iload_n (n := 1) dJx4a65c_add_72be8_0 rfl rfl ?_
  refine zs_aload_n (n := 2) dJx4a65c_add_72be8_1 rfl rfl ?_
  refine zs_alen (n := 3) dJx4a65c_add_72be8_2 (by omega) rfl ?_
  rw [hN]
  refine zs_icmp_ne (tgt := 11) (n := 6) dJx4a65c_add_72be8_3 (by decide) rfl (fun h => absurd h (fun h => h rfl)) (fun _ => ?_)
  refine zs_aload_n (n := 7) dJx4a65c_add_72be8_6 rfl rfl ?_
  refine zs_invV (d' := 3) (nc1 := 0) (ns1 := 0) (n := 10) (As := []) (ci := 4) (mc := 1) (ms := 15) (Post := fun o M' => ∃ q, mK M q = 0 ∧ o = .inl (some (.ref q)) ∧ M' = sR (zCop M q e 15 g 10) p 129 (some q)) dJx4a65c_add_72be8_7 ok_Jx4a65c_grow_d5877 ⟨ml_Jx4a65c_129, im_Jx4a65c_grow_d5877, sl_Jx4a65c_grow_d5877⟩ rfl hp rfl (Nat.le_of_ble_eq_true rfl) (by simp) rfl (by omega) (by omega) rfl rfl (m_growF0 hp h1 h2 h3 hN hel (fun q hq => ⟨q, hq, rfl, rfl⟩)) (fun k M' h => by obtain ⟨q, _, h, _⟩ := h; cases h) (fun v M' h => ?_)
  obtain ⟨q, hq, h, rfl⟩ := h
  cases h
  have hp0 : mK M p ≠ 0 := by rw [hp]; decide
  have hpq : p ≠ q := fun h => hp0 (h ▸ hq)
  have hKp : mK (zCop M q e 15 g 10) p = 14 := (u1_ne hpq).trans hp
  have hKv : mK (zCop M q e 15 g 10) v = mK M v := u1_ne (fun h => hv.ne (h ▸ hq))
  refine zs_astore_n (n := 11) dJx4a65c_add_72be8_10 (by decide) rfl ?_
  refine zs_aload_n (n := 12) dJx4a65c_add_72be8_11 rfl rfl ?_
  refine zs_iload_n (n := 13) dJx4a65c_add_72be8_12 rfl rfl ?_
  refine zs_aload_n (n := 14) dJx4a65c_add_72be8_13 rfl rfl ?_
  refine zs_aastB (n := 15) dJx4a65c_add_72be8_14 (show mK (sR (zCop M q e 15 g 10) p 129 (some q)) q = 3 from u1_at) (by rw [show mN (sR (zCop M q e 15 g 10) p 129 (some q)) q = 15 from u1_at]; exact vp_in_nI (by decide) (by decide)) (hv.to hKv) rfl ?_
  rw [nI_clamp (by decide)]
  refine zs_aload_n (n := 16) dJx4a65c_add_72be8_15 rfl rfl ?_
  refine zs_iload_n (n := 17) dJx4a65c_add_72be8_16 rfl rfl ?_
  refine zs_iconst (v := 1) (n := 18) dJx4a65c_add_72be8_17 (by decide) rfl ?_
  refine zs_iadd (n := 19) dJx4a65c_add_72be8_18 rfl ?_
  rw [show nI 10 + 1 = (11 : Int32) from by decide]
  refine zs_puti (n := 22) dJx4a65c_add_72be8_19 pf_Jx4a65c_add_72be8_48 hKp ⟨rfl, rfl⟩ rfl ?_
  refine zs_return dJx4a65c_add_72be8_22 rfl ?_
  exact hQ q hq
theorem m_addF {v : Nat} (hL : zL Z M p e 10 f) (h3 : mK M e = 3) (hN : mN M e = 10) (hel : ∀ i, i < 10 → zCi M 1 (f i)) (hv : zOb M v) (hQ : ∀ q, mK M q = 0 → Q (.inl (some (.int 1))) (zAddF M p e q v g)) : zX Z l 5 mth_Jx4a65c_add_9ea2d 0 (lv_args 0 [.ref p, .ref v]) [] M 1 15 Q := by
  show zX Z l 5 mth_Jx4a65c_add_9ea2d 0 [(0, .ref p), (1, .ref v)] [] M 1 15 Q
  obtain ⟨h1, h2, h4, -, h5⟩ := hL
  have hel' : ∀ i, i < 10 → ∀ y, aR M e i = some y → zCi M 1 y := fun i hi y hy => by
    rw [h5 i hi] at hy
    cases hy
    exact hel i hi
  refine zs_aload_n (n := 1) dJx4a65c_add_9ea2d_0 rfl rfl ?_
  refine zs_dup (n := 2) dJx4a65c_add_9ea2d_1 rfl rfl ?_
  refine zs_geti (n := 5) dJx4a65c_add_9ea2d_2 gf_Jx4a65c_63 h1 rfl ?_
  refine zs_iconst (v := 1) (n := 6) dJx4a65c_add_9ea2d_5 (by decide) rfl ?_
  refine zs_iadd (n := 7) dJx4a65c_add_9ea2d_6 rfl ?_
  refine zs_puti (n := 10) dJx4a65c_add_9ea2d_7 pf_Jx4a65c_add_9ea2d_63 h1 ⟨rfl, rfl⟩ rfl ?_
  refine zs_aload_n (n := 11) dJx4a65c_add_9ea2d_10 rfl rfl ?_
  refine zs_aload_n (n := 12) dJx4a65c_add_9ea2d_11 rfl rfl ?_
  refine zs_aload_n (n := 13) dJx4a65c_add_9ea2d_12 rfl rfl ?_
  refine zs_getr (n := 16) dJx4a65c_add_9ea2d_13 gf_Jx4a65c_9 h1 h4 rfl ?_
  refine zs_aload_n (n := 17) dJx4a65c_add_9ea2d_16 rfl rfl ?_
  refine zs_geti (n := 20) dJx4a65c_add_9ea2d_17 gf_Jx4a65c_48 h1 rfl ?_
  rw [show vI (sI M p 128 (vI M p 128 + 1)) p 130 = nI 10 from (u2_k (f := vI M) (a := p) (v := vI M p 128 + 1) (k := 128) (j := 130) (by decide) p).trans h2]
  refine zs_invV (d' := 4) (nc1 := 0) (ns1 := 0) (n := 23) (As := [.ref v, .ref e, .int (nI 10)]) (ci := 4) (mc := 1) (ms := 15) (Post := fun o M' => ∃ q, mK M q = 0 ∧ o = .inl none ∧ M' = zAddF M p e q v g) dJx4a65c_add_9ea2d_20 ok_Jx4a65c_add_72be8 ⟨ml_Jx4a65c_131, im_Jx4a65c_add_72be8, sl_Jx4a65c_add_72be8⟩ rfl h1 rfl (Nat.le_of_ble_eq_true rfl) (by simp) rfl (by omega) (by omega) rfl rfl (m_addF3 (M := sI M p 128 (vI M p 128 + 1)) h1 ((u2_k (f := vI M) (a := p) (v := vI M p 128 + 1) (k := 128) (j := 130) (by decide) p).trans h2) h4 h3 hN hel' hv (fun q hq => ⟨q, hq, rfl, rfl⟩)) (fun k M' h => by obtain ⟨q, _, h, _⟩ := h; cases h) (fun v M' h => ?_)
  obtain ⟨q, hq, h, rfl⟩ := h
  cases h
  refine zs_iconst (v := 1) (n := 24) dJx4a65c_add_9ea2d_23 (by decide) rfl ?_
  refine zs_ireturn dJx4a65c_add_9ea2d_24 ⟨_, rfl, rfl⟩ ?_
  exact hQ q hq
end ZDAYS
