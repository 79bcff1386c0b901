/-! THE MODEL: turns by lots; all turns cleared -/
section ZMOD8
variable {Z : zPar} {l : Launch} {Λ : Nat → Nat} {S : zSt} {M M0 : zMem} {d d' : Nat} {mm : zMeth} {pc n nc ns ix nc1 ns1 : Nat} {L : List (Nat × Value)} {st : List Value} {Q : zO → zMem → Prop}
theorem zw_clrTi {i q j g : Nat} (hd : decode (zMC mm) pc = .ok (.invokevirtual ix, 3)) (hw : zwd (.methodLink (zMY mm).cls ix yJx4a65c_clear_da8c8)) (hR : zRp Z Λ S M) (h4 : sc S 4 = 1) (hi : i < sc S 1000) (hI : zIt M q (Λ 1015) j g) (hst : st.length ≤ 4) (hdd : 0 < d) (hn : pc + 3 = n) (kk : ∀ M', zRp Z Λ (cset (sc S) (1010 + i) 0, sV S, sW S, sT S, sP S) M' → zIt M' q (Λ 1015) j g → zX Z l d mm n L st M' nc ns Q) : zX Z l d mm pc L (.ref (Λ (1120 + i)) :: st) M nc ns Q := by
  have hb1 := hR.bnd.2.1.1
  refine zc_clear hd hw (hR.lT' hi) hst hdd hn (kk _ (hR.clrT' hi) (hI.keep ?_ ?_))
  · have h13 := hI.2.1
    have hp : q ≠ Λ (1120 + i) := fun e => by
      have := (hR.lT' hi).1
      rw [← e] at this
      omega
    have he : q ≠ Λ (1130 + i) := fun e => by
      have := (hR.lT' hi).2.2.2.1
      rw [← e] at this
      omega
    exact ⟨rfl, rfl, rfl, (u2_ne hp).trans (u2_ne hp), rfl, rfl, u1_ne he, rfl, rfl⟩
  · have hne : Λ 1015 ≠ Λ (1120 + i) := hR.ne (lvM h4 (by omega)) (lvT' hi) (by omega)
    show u2 (u2 (vI M) (Λ (1120 + i)) 128 (vI M (Λ (1120 + i)) 128 + 1)) (Λ (1120 + i)) 130 0 (Λ 1015) 128 = _
    rw [u2_ne hne, u2_ne hne]
def fClrM (j : Nat) (c : Nat → Nat) : Nat → Nat := zit (fun i c => cset c (1010 + i) 0) j c
theorem fClrM_lo {c : Nat → Nat} {k : Nat} (hk : k < 1010 ∨ 1200 ≤ k) : ∀ j, j ≤ 100 → fClrM j c k = c k
  | 0, _ => rfl
  | j + 1, h => (cset_ne (by omega)).trans (fClrM_lo hk j (by omega))
theorem fClrM_0 {c : Nat → Nat} {i : Nat} : ∀ n, i < n → fClrM n c (1010 + i) = 0
  | n + 1, h => by
    show cset (fClrM n c) (1010 + n) 0 (1010 + i) = 0
    by_cases e : i = n
    · subst e
      exact cset_at
    · exact (cset_ne (by omega)).trans (fClrM_0 n (by omega))
def fTurnM (S : zSt) (i a : Nat) : zSt := ((cset (sc S) (1010 + i) (sc S (1010 + i) + 1)), u1 (sV S) (1160 + 8 * i + sc S (1010 + i)) (fun k => if k = 608 then nI a else if k = 609 then -1 else 0), u1 (sW S) (1160 + 8 * i + sc S (1010 + i)) (fun _ => 0), sT S, sP S)
theorem k_tStep {k i a : Nat} (hR : zRp Z Λ S M) (h4 : sc S 4 = 1) (hk : k < sc S 1003) (hik : k % sc S 1000 = i) (hi : i < sc S 1000) (hak : sV S (1300 + k) 32 = nI a) (hn : sc S (1010 + i) < 8)
    (kk : ∀ Λ' M', zRp Z Λ' (fTurnM S i a) M' → zSame Λ Λ' → zX Z l 8 mth_X16_turnsByLots 85 [(0, .ref (Λ' 1001)), (1, .int (nI (k + 1)))] [] M' nc1 ns1 Q) :
    zX Z l 8 mth_X16_turnsByLots 96 [(0, .ref (Λ 1001)), (1, .int (nI k))] [] M (nc1 + 2) (ns1 + 18) Q := by
  have hb6 : sc S 1000 ≤ 6 := hR.bnd.2.1.1
  have hb3 := hR.bnd.2.1.2.2.2.1
  refine zs_aload_n (n := 97) dX16_turnsByLots_96 rfl rfl ?_
  refine zs_getr (b := (Λ 1015)) (n := 100) dX16_turnsByLots_97 gf_X16_10 (hR.kd (lvM h4 (by omega))) (hR.pt (lvM h4 (by omega)) rfl (by decide)) rfl ?_
  refine zs_iload_n (n := 101) dX16_turnsByLots_100 rfl rfl ?_
  refine zs_aload_n (n := 102) dX16_turnsByLots_101 rfl rfl ?_
  refine zs_getr (b := (Λ 1015)) (n := 105) dX16_turnsByLots_102 gf_X16_10 (hR.kd (lvM h4 (by omega))) (hR.pt (lvM h4 (by omega)) rfl (by decide)) rfl ?_
  refine zc_size (c := sc S 1000) (n := 108) dX16_turnsByLots_105 ml_X16_46 (hR.lP' h4) (by simp) (by omega) rfl ?_
  refine zs_irem (n := 109) dX16_turnsByLots_108 (nI_ne0 (by omega) (by omega)) rfl ?_
  rw [pk_rem (by omega) (by omega) (by omega), hik]
  refine zc_getb (c := sc S 1000) (b := (Λ (1100 + i))) (n := 112) dX16_turnsByLots_109 ml_X16_94 (hR.lP' h4) hi rfl (by simp) (by omega) rfl ?_
  refine zs_castS (ci := 18) (n := 115) dX16_turnsByLots_112 rfl cl_X16_68 (hR.kP' hi) rfl ?_
  refine zs_getr (b := (Λ (1120 + i))) (n := 118) dX16_turnsByLots_115 gf_X16_164 (hR.kP' hi) (hR.pT' hi) rfl ?_
  refine zh_new (M0 := M) (N := 8) (nc1 := (nc1 + 1)) (ns1 := (ns1 + 10)) (n := 121) (1160 + 8 * i + sc S (1010 + i)) dX16_turnsByLots_118 nc_X16_167 (zPic.nil (Λ := Λ)) rfl (by decide) rfl (by omega) (by omega) ?_
  have hR0 := hR
  intro q M hP
  have hR := hR0.grow (M' := M) (fun _ _ => rfl) ⟨rfl, rfl⟩ (fun _ _ _ => rfl) hP.1
  refine zs_dup (n := 122) dX16_turnsByLots_121 rfl rfl ?_
  refine zs_aload_n (n := 123) dX16_turnsByLots_122 rfl rfl ?_
  refine zs_getr (b := (Λ 1021)) (n := 126) dX16_turnsByLots_123 gf_X16_22 (hR.kd (lvM h4 (by omega))) (hR.pt (lvM h4 (by omega)) rfl (by decide)) rfl ?_
  refine zs_iload_n (n := 127) dX16_turnsByLots_126 rfl rfl ?_
  refine zc_getb (c := sc S 1003) (b := (Λ (1300 + k))) (n := 130) dX16_turnsByLots_127 ml_X16_94 (hR.lL' h4) hk rfl (by simp) (by omega) rfl ?_
  refine zs_castJ (n := 133) dX16_turnsByLots_130 cl_X16_147 (hR.lotJ hk) rfl ?_
  refine zc_intValue (n := 136) dX16_turnsByLots_133 ml_X16_156 (hR.lotJ hk) (by simp) (by omega) rfl ?_
  rw [(hR.lotV hk)]
  rw [hak]
  refine zg_I (n := 139) (As := [.int (nI a)]) (mc := 0) (ms := 0) (nc1 := (nc1 + 1)) (ns1 := (ns1 + 10)) dX16_turnsByLots_136 ok_X14_init ⟨ml_X16_172, im_X14_init, rfl, rfl⟩ rfl (Nat.le_of_ble_eq_true rfl) (by simp) (by omega) (by omega) (by omega) rfl rfl (h_X14_init (r0 := (1160 + 8 * i + sc S (1010 + i))) u1_at hP qNa kNa) ?_
  clear hR
  intro M hP
  have hb := hR0.bnd
  have hcs : (cset (sc S) (1010 + i) (sc S (1010 + i) + 1)) = cset (sc S) (zci (1120 + i)) (zct (sc S) (1120 + i) + 1) := by rw [zci_T' (by omega), zct_T' (by omega)]
  have hb9 : zBnd (cset (sc S) (1010 + i) (sc S (1010 + i) + 1)) := by rw [hcs]; exact (hb.up (r := 1120 + i) (by unfold zlr; omega) (by rw [if_neg (by omega), if_neg (by omega), zct_T' (by omega)]; show sc S (1010 + i) + 1 ≤ 8; omega))
  have hk29 : zki (1160 + 8 * i + sc S (1010 + i)) = 29 := by rw [Nat.add_assoc]; exact zki_Km (by omega)
  refine zw_putm (r := 1120 + i) (r0 := (1160 + 8 * i + sc S (1010 + i))) (V0 := (fun k => if k = 608 then nI a else if k = 609 then -1 else 0)) (c' := (cset (sc S) (1010 + i) (sc S (1010 + i) + 1))) (nc1 := nc1) (ns1 := ns1) (n := 142) rfl dX16_turnsByLots_139 ml_X16_80 hR0 hP (lvT' hi) (zki_T' (by omega)) (by show zct (sc S) (1120 + i) < 10; rw [zct_T' (by omega)]; omega) hcs hb9 (by rw [zbs_T' (by omega), zct_T' (by omega)]) (zlv_no hb (Or.inr (Or.inr (Or.inr (Or.inr ⟨i, _, rfl, by omega, hn, Nat.le_refl _⟩))))) (by omega) (qIn (qIn qNa)) ((kIn (kIn kNa)).trans hk29.symm) ⟨19, _, hk29, rfl, co_X14, by decide⟩ (fun k h1 h2 => ?_) (fun j => ?_) (fun s hs hns => zlvKm_new hb hs (by omega) hns) ⟨show (cset (sc S) (1010 + i) (sc S (1010 + i) + 1)) 1003 = sc S 1003 from cset_ne (by omega), show (cset (sc S) (1010 + i) (sc S (1010 + i) + 1)) 6 = sc S 6 from cset_ne (by omega)⟩ (by simp) (by omega) (by omega) (by omega) rfl ?_
  · simp [u1, u2]
  · simp [u1]
  intro Λ M hR hS hΛ
  have e1 := hS.2.1
  rw [← e1]
  refine zs_pop (n := 143) dX16_turnsByLots_142 rfl rfl ?_
  refine zs_iinc (v := (nI (k + 1))) (n := 146) dX16_turnsByLots_143 rfl (nI_1 _) (by decide) rfl ?_
  refine zs_goto (tgt := 85) dX16_turnsByLots_146 (by decide) ?_
  refine zX.sub (L' := [(0, .ref (Λ 1001)), (1, .int (nI (k + 1)))]) ⟨rfl, rfl, trivial⟩ ?_
  exact kk Λ M hR hS
def fTBM (S : zSt) (A : Nat → Nat) (j : Nat) : zSt := zit (fun k T => fTurnM T (k % sc S 1000) (A k)) j (wC (mT S 0) (fClrM (sc S 1000) (sc S)))
theorem fTBM_c {A : Nat → Nat} {q : Nat} (h0 : 0 < sc S 1000) (h6 : sc S 1000 ≤ 6) (hq : q < 1010 ∨ 1200 ≤ q) : ∀ j, sc (fTBM S A j) q = sc S q
  | 0 => fClrM_lo hq _ (by omega)
  | j + 1 => by
    have := Nat.mod_lt j h0
    exact (cset_ne (by omega)).trans (fTBM_c h0 h6 hq j)
theorem fTBM_V {A : Nat → Nat} {s : Nat} (h0 : 0 < sc S 1000) (h6 : sc S 1000 ≤ 6) (hs : s < 1160 ∨ 1300 ≤ s) (hn : ∀ j i, j < 8 → i < sc S 1000 → sc (fTBM S A j) (1010 + i) ≤ 8) : ∀ j, j ≤ 8 → sV (fTBM S A j) s = sV (mT S 0) s
  | 0, _ => rfl
  | j + 1, hj => by
    have := Nat.mod_lt j h0
    have h8 := hn j (j % sc S 1000) (by omega) this
    have e : s ≠ 1160 + 8 * (j % sc S 1000) + sc (fTBM S A j) (1010 + j % sc S 1000) := by omega
    exact (u1_ne e).trans (fTBM_V h0 h6 hs hn j (by omega))
theorem fTBM_n {A : Nat → Nat} {i : Nat} (h0 : 0 < sc S 1000) (hi : i < sc S 1000) : ∀ j, sc (fTBM S A j) (1010 + i) ≤ j
  | 0 => Nat.le_of_eq (fClrM_0 _ hi)
  | j + 1 => by
    have := fTBM_n (A := A) h0 hi j
    show cset (sc (fTBM S A j)) (1010 + j % sc S 1000) (sc (fTBM S A j) (1010 + j % sc S 1000) + 1) (1010 + i) ≤ j + 1
    unfold cset
    split
    · next e => rw [← e]; omega
    · omega
theorem k_turnsByLots_1  (hR : zRp Z Λ S M) (h4 : sc S 4 = 1) (hp : ¬ sV S 1001 680 = 0) : zG Z l 2 mth_X16_turnsByLots [.ref (Λ 1001)] M 0 0 (some (.int 0)) ((zRp Z Λ (mT S 1))) := by
  intro Q hQ
  have hb3 := hR.bnd.2.1.2.2.2.1
  have hb6 : sc S 1000 ≤ 6 := hR.bnd.2.1.1
  show zX Z l 2 mth_X16_turnsByLots 0 [(0, .ref (Λ 1001))] [] M 0 0 Q
  refine zs_aload_n (n := 1) dX16_turnsByLots_0 rfl rfl ?_
  refine zs_aload_n (n := 2) dX16_turnsByLots_1 rfl rfl ?_
  refine zs_getv (x := (sV S 1001 680)) (n := 5) dX16_turnsByLots_2 gf_X16_161 (hR.kd (lvM h4 (by omega))) (hR.iv (lvM h4 (by omega)) (by decide) (by decide)) rfl ?_
  refine zs_if_eq (tgt := 12) (n := 8) dX16_turnsByLots_5 (by decide) rfl (fun h => absurd h hp) (fun _ => ?_)
  refine zs_iconst (v := 1) (n := 9) dX16_turnsByLots_8 (by decide) rfl ?_
  refine zs_goto (tgt := 34) dX16_turnsByLots_9 (by decide) ?_
  refine zw_i (r := 1001) (n := 37) dX16_turnsByLots_34 pf_X16_turnsByLots_43 hR (lvM h4 (by omega)) (hR.kd (lvM h4 (by omega))) ⟨rfl, rfl⟩ (by decide) rfl ?_
  intro M hR hv
  refine zs_aload_n (n := 38) dX16_turnsByLots_37 rfl rfl ?_
  refine zs_getv (x := (1 : Int32)) (n := 41) dX16_turnsByLots_38 gf_X16_43 (hR.kd (lvM h4 (by omega))) (hR.iv (lvM h4 (by omega)) (by decide) (by decide)) rfl ?_
  refine zs_if_le (tgt := 46) (n := 44) dX16_turnsByLots_41 (by decide) rfl (fun h => absurd h (by decide)) (fun _ => ?_)
  refine zs_iconst (v := 0) (n := 45) dX16_turnsByLots_44 (by decide) rfl ?_
  refine zs_ireturn dX16_turnsByLots_45 ⟨_, rfl, rfl⟩ ?_
  exact hQ _ hR
theorem k_turnsByLots_2  (hR : zRp Z Λ S M) (h4 : sc S 4 = 1) (hp : sV S 1001 680 = 0) (hdr : sV S 1001 679 = 0) : zG Z l 2 mth_X16_turnsByLots [.ref (Λ 1001)] M 0 0 (some (.int 0)) ((zRp Z Λ (mT S 2))) := by
  intro Q hQ
  have hb3 := hR.bnd.2.1.2.2.2.1
  have hb6 : sc S 1000 ≤ 6 := hR.bnd.2.1.1
  show zX Z l 2 mth_X16_turnsByLots 0 [(0, .ref (Λ 1001))] [] M 0 0 Q
  refine zs_aload_n (n := 1) dX16_turnsByLots_0 rfl rfl ?_
  refine zs_aload_n (n := 2) dX16_turnsByLots_1 rfl rfl ?_
  refine zs_getv (x := (sV S 1001 680)) (n := 5) dX16_turnsByLots_2 gf_X16_161 (hR.kd (lvM h4 (by omega))) (hR.iv (lvM h4 (by omega)) (by decide) (by decide)) rfl ?_
  refine zs_if_eq (tgt := 12) (n := 8) dX16_turnsByLots_5 (by decide) rfl (fun _ => ?_) (fun h => absurd hp h)
  refine zs_aload_n (n := 13) dX16_turnsByLots_12 rfl rfl ?_
  refine zs_getv (x := (sV S 1001 679)) (n := 16) dX16_turnsByLots_13 gf_X16_143 (hR.kd (lvM h4 (by omega))) (hR.iv (lvM h4 (by omega)) (by decide) (by decide)) rfl ?_
  refine zs_if_eq (tgt := 29) (n := 19) dX16_turnsByLots_16 (by decide) rfl (fun _ => ?_) (fun h => absurd hdr h)
  refine zs_iconst (v := 2) (n := 30) dX16_turnsByLots_29 (by decide) rfl ?_
  refine zs_goto (tgt := 34) dX16_turnsByLots_30 (by decide) ?_
  refine zw_i (r := 1001) (n := 37) dX16_turnsByLots_34 pf_X16_turnsByLots_43 hR (lvM h4 (by omega)) (hR.kd (lvM h4 (by omega))) ⟨rfl, rfl⟩ (by decide) rfl ?_
  intro M hR hv
  refine zs_aload_n (n := 38) dX16_turnsByLots_37 rfl rfl ?_
  refine zs_getv (x := (2 : Int32)) (n := 41) dX16_turnsByLots_38 gf_X16_43 (hR.kd (lvM h4 (by omega))) (hR.iv (lvM h4 (by omega)) (by decide) (by decide)) rfl ?_
  refine zs_if_le (tgt := 46) (n := 44) dX16_turnsByLots_41 (by decide) rfl (fun h => absurd h (by decide)) (fun _ => ?_)
  refine zs_iconst (v := 0) (n := 45) dX16_turnsByLots_44 (by decide) rfl ?_
  refine zs_ireturn dX16_turnsByLots_45 ⟨_, rfl, rfl⟩ ?_
  exact hQ _ hR
theorem k_turnsByLots_3  (hR : zRp Z Λ S M) (h4 : sc S 4 = 1) (hp : sV S 1001 680 = 0) (hdr : ¬ sV S 1001 679 = 0) (h0 : sc S 1000 = 0) : zG Z l 2 mth_X16_turnsByLots [.ref (Λ 1001)] M 0 0 (some (.int 0)) ((zRp Z Λ (mT S 2))) := by
  intro Q hQ
  have hb3 := hR.bnd.2.1.2.2.2.1
  have hb6 : sc S 1000 ≤ 6 := hR.bnd.2.1.1
  show zX Z l 2 mth_X16_turnsByLots 0 [(0, .ref (Λ 1001))] [] M 0 0 Q
  refine zs_aload_n (n := 1) dX16_turnsByLots_0 rfl rfl ?_
  refine zs_aload_n (n := 2) dX16_turnsByLots_1 rfl rfl ?_
  refine zs_getv (x := (sV S 1001 680)) (n := 5) dX16_turnsByLots_2 gf_X16_161 (hR.kd (lvM h4 (by omega))) (hR.iv (lvM h4 (by omega)) (by decide) (by decide)) rfl ?_
  refine zs_if_eq (tgt := 12) (n := 8) dX16_turnsByLots_5 (by decide) rfl (fun _ => ?_) (fun h => absurd hp h)
  refine zs_aload_n (n := 13) dX16_turnsByLots_12 rfl rfl ?_
  refine zs_getv (x := (sV S 1001 679)) (n := 16) dX16_turnsByLots_13 gf_X16_143 (hR.kd (lvM h4 (by omega))) (hR.iv (lvM h4 (by omega)) (by decide) (by decide)) rfl ?_
  refine zs_if_eq (tgt := 29) (n := 19) dX16_turnsByLots_16 (by decide) rfl (fun h => absurd h hdr) (fun _ => ?_)
  refine zs_aload_n (n := 20) dX16_turnsByLots_19 rfl rfl ?_
  refine zs_getr (b := (Λ 1015)) (n := 23) dX16_turnsByLots_20 gf_X16_10 (hR.kd (lvM h4 (by omega))) (hR.pt (lvM h4 (by omega)) rfl (by decide)) rfl ?_
  refine zc_isEmpty (c := sc S 1000) (n := 26) dX16_turnsByLots_23 ml_X16_175 (hR.lP' h4) (by simp) (by omega) rfl ?_
  refine zs_if_eq (tgt := 33) (n := 29) dX16_turnsByLots_26 (by decide) rfl (fun h => absurd h (zb1.mpr (decide_eq_true h0))) (fun _ => ?_)
  refine zs_iconst (v := 2) (n := 30) dX16_turnsByLots_29 (by decide) rfl ?_
  refine zs_goto (tgt := 34) dX16_turnsByLots_30 (by decide) ?_
  refine zw_i (r := 1001) (n := 37) dX16_turnsByLots_34 pf_X16_turnsByLots_43 hR (lvM h4 (by omega)) (hR.kd (lvM h4 (by omega))) ⟨rfl, rfl⟩ (by decide) rfl ?_
  intro M hR hv
  refine zs_aload_n (n := 38) dX16_turnsByLots_37 rfl rfl ?_
  refine zs_getv (x := (2 : Int32)) (n := 41) dX16_turnsByLots_38 gf_X16_43 (hR.kd (lvM h4 (by omega))) (hR.iv (lvM h4 (by omega)) (by decide) (by decide)) rfl ?_
  refine zs_if_le (tgt := 46) (n := 44) dX16_turnsByLots_41 (by decide) rfl (fun h => absurd h (by decide)) (fun _ => ?_)
  refine zs_iconst (v := 0) (n := 45) dX16_turnsByLots_44 (by decide) rfl ?_
  refine zs_ireturn dX16_turnsByLots_45 ⟨_, rfl, rfl⟩ ?_
  exact hQ _ hR
theorem k_turnsByLots {A : Nat → Nat} (hR : zRp Z Λ S M) (h4 : sc S 4 = 1) (hp : sV S 1001 680 = 0) (hdr : ¬ sV S 1001 679 = 0) (h0 : 0 < sc S 1000) (hA : ∀ k, k < sc S 1003 → sV S (1300 + k) 32 = nI (A k))
    (hQ : ∀ Λ' M', zRp Z Λ' (fTBM S A (sc S 1003)) M' → zSame Λ Λ' → Q (.inl (some (.int (nI (sc S 1003))))) M') : zX Z l 8 mth_X16_turnsByLots 0 (lv_args 0 [.ref (Λ 1001)]) [] M 17 148 Q := by
  show zX Z l 8 mth_X16_turnsByLots 0 [(0, .ref (Λ 1001))] [] M 17 148 Q
  have h4x := h4
  have hb3 := hR.bnd.2.1.2.2.2.1
  have hb6 : sc S 1000 ≤ 6 := hR.bnd.2.1.1
  refine zs_aload_n (n := 1) dX16_turnsByLots_0 rfl rfl ?_
  refine zs_aload_n (n := 2) dX16_turnsByLots_1 rfl rfl ?_
  refine zs_getv (x := (sV S 1001 680)) (n := 5) dX16_turnsByLots_2 gf_X16_161 (hR.kd (lvM h4 (by omega))) (hR.iv (lvM h4 (by omega)) (by decide) (by decide)) rfl ?_
  refine zs_if_eq (tgt := 12) (n := 8) dX16_turnsByLots_5 (by decide) rfl (fun _ => ?_) (fun h => absurd hp h)
  refine zs_aload_n (n := 13) dX16_turnsByLots_12 rfl rfl ?_
  refine zs_getv (x := (sV S 1001 679)) (n := 16) dX16_turnsByLots_13 gf_X16_143 (hR.kd (lvM h4 (by omega))) (hR.iv (lvM h4 (by omega)) (by decide) (by decide)) rfl ?_
  refine zs_if_eq (tgt := 29) (n := 19) dX16_turnsByLots_16 (by decide) rfl (fun h => absurd h hdr) (fun _ => ?_)
  refine zs_aload_n (n := 20) dX16_turnsByLots_19 rfl rfl ?_
  refine zs_getr (b := (Λ 1015)) (n := 23) dX16_turnsByLots_20 gf_X16_10 (hR.kd (lvM h4 (by omega))) (hR.pt (lvM h4 (by omega)) rfl (by decide)) rfl ?_
  refine zc_isEmpty (c := sc S 1000) (n := 26) dX16_turnsByLots_23 ml_X16_175 (hR.lP' h4) (by simp) (by omega) rfl ?_
  refine zs_if_eq (tgt := 33) (n := 29) dX16_turnsByLots_26 (by decide) rfl (fun _ => ?_) (fun h => absurd (zb0.mpr (decide_eq_false (by omega))) h)
  refine zs_iconst (v := 0) (n := 34) dX16_turnsByLots_33 (by decide) rfl ?_
  refine zw_i (r := 1001) (n := 37) dX16_turnsByLots_34 pf_X16_turnsByLots_43 hR (lvM h4 (by omega)) (hR.kd (lvM h4 (by omega))) ⟨rfl, rfl⟩ (by decide) rfl ?_
  intro M hR hv
  refine zs_aload_n (n := 38) dX16_turnsByLots_37 rfl rfl ?_
  refine zs_getv (x := (0 : Int32)) (n := 41) dX16_turnsByLots_38 gf_X16_43 (hR.kd (lvM h4 (by omega))) (hR.iv (lvM h4 (by omega)) (by decide) (by decide)) rfl ?_
  refine zs_if_le (tgt := 46) (n := 44) dX16_turnsByLots_41 (by decide) rfl (fun _ => ?_) (fun h => absurd (by decide) h)
  refine zs_aload_n (n := 47) dX16_turnsByLots_46 rfl rfl ?_
  refine zs_getr (b := (Λ 1015)) (n := 50) dX16_turnsByLots_47 gf_X16_10 (hR.kd (lvM h4 (by omega))) (hR.pt (lvM h4 (by omega)) rfl (by decide)) rfl ?_
  refine zi_new (r := 1015) (nc1 := 16) (ns1 := 144) (n := 53) 3000 dX16_turnsByLots_50 rfl hR (lvM h4 (by omega)) rfl (by decide) (by simp) (by omega) (by omega) (by omega) rfl ?_
  intro q50 M hR1 hI50 hq50 hag50
  have hR := hR1
  refine zs_astore_n (n := 54) dX16_turnsByLots_53 (by decide) rfl ?_
  refine zX.sub (L' := [(0, .ref (Λ 1001)), (1, .ref q50)]) ⟨rfl, rfl, trivial⟩ ?_
  refine zloop (n := sc S 1000) (X := fun j => ∀ M, zRp Z Λ (wC (mT S 0) (fClrM j (sc (mT S 0)))) M ∧ zIt M q50 (Λ 1015) j 3000 → zX Z l 8 mth_X16_turnsByLots 54 [(0, .ref (Λ 1001)), (1, .ref q50)] [] M 16 144 Q) (fun j hj ih => ?_) ?_ 0 (Nat.zero_le _) M ?_
  · intro M hR9
    obtain ⟨hR, hI50⟩ := hR9
    have e0 : fClrM j (sc (mT S 0)) 1000 = sc S 1000 := fClrM_lo (Or.inl (by decide)) _ (by omega)
    have h4a := h4
    have h4 : sc (wC (mT S 0) (fClrM j (sc (mT S 0)))) 4 = 1 := (fClrM_lo (Or.inl (by decide)) _ (by omega)).trans h4a
    have hc0 : zct (sc (wC (mT S 0) (fClrM j (sc (mT S 0))))) 1015 = sc S 1000 := e0
    have hjx : j < sc (wC (mT S 0) (fClrM j (sc (mT S 0)))) 1000 := by rw [show sc (wC (mT S 0) (fClrM j (sc (mT S 0)))) 1000 = sc S 1000 from e0]; exact hj
    refine zs_aload_n (n := 55) dX16_turnsByLots_54 rfl rfl ?_
    refine zi_has (r := 1015) (j := j) (n := 60) dX16_turnsByLots_55 rfl hR (lvM h4 (by omega)) rfl hI50 (by rw [hc0]; omega) (by simp) (by omega) rfl ?_
    rw [hc0]
    refine zs_if_eq (tgt := 83) (n := 63) dX16_turnsByLots_60 (by decide) rfl (fun h => absurd h (zb1.mpr (by rw [decide_eq_false (by omega)]; rfl))) (fun _ => ?_)
    refine zs_aload_n (n := 64) dX16_turnsByLots_63 rfl rfl ?_
    refine zi_next (r := 1015) (j := j) (b := (Λ (1100 + j))) (n := 69) dX16_turnsByLots_64 rfl hR (lvM h4 (by omega)) rfl hI50 (by rw [hc0]; exact hj) rfl (by simp) (by omega) rfl ?_
    intro M hR1 hI50n hag64
    have hI50 := hI50n
    have hR := hR1
    refine zs_castS (ci := 18) (n := 72) dX16_turnsByLots_69 rfl cl_X16_68 (hR.kP' hjx) rfl ?_
    refine zs_astore_n (n := 73) dX16_turnsByLots_72 (by decide) rfl ?_
    refine zs_aload_n (n := 74) dX16_turnsByLots_73 rfl rfl ?_
    refine zs_getr (b := (Λ (1120 + j))) (n := 77) dX16_turnsByLots_74 gf_X16_164 (hR.kP' hjx) (hR.pT' hjx) rfl ?_
    refine zw_clrTi (n := 80) dX16_turnsByLots_77 ml_X16_140 hR h4 hjx hI50 (by simp) (by omega) rfl ?_
    intro M hR hI50
    refine zs_goto (tgt := 54) dX16_turnsByLots_80 (by decide) ?_
    refine zX.sub (L' := [(0, .ref (Λ 1001)), (1, .ref q50)]) ⟨rfl, rfl, trivial⟩ ?_
    exact ih M ⟨hR, hI50⟩
  · intro M hR9
    obtain ⟨hR, hI50⟩ := hR9
    have e0 : fClrM (sc S 1000) (sc (mT S 0)) 1000 = sc S 1000 := fClrM_lo (Or.inl (by decide)) _ (by omega)
    have h4a := h4
    have h4 : sc (wC (mT S 0) (fClrM (sc S 1000) (sc (mT S 0)))) 4 = 1 := (fClrM_lo (Or.inl (by decide)) _ (by omega)).trans h4a
    have hc0 : zct (sc (wC (mT S 0) (fClrM (sc S 1000) (sc (mT S 0))))) 1015 = sc S 1000 := e0
    refine zs_aload_n (n := 55) dX16_turnsByLots_54 rfl rfl ?_
    refine zi_has (r := 1015) (j := sc S 1000) (n := 60) dX16_turnsByLots_55 rfl hR (lvM h4 (by omega)) rfl hI50 (by rw [hc0]; omega) (by simp) (by omega) rfl ?_
    rw [hc0]
    refine zs_if_eq (tgt := 83) (n := 63) dX16_turnsByLots_60 (by decide) rfl (fun _ => ?_) (fun h => absurd (zb0.mpr (by rw [decide_eq_true rfl]; rfl)) h)
    refine zs_iconst (v := 0) (n := 84) dX16_turnsByLots_83 (by decide) rfl ?_
    refine zs_istore_n (n := 85) dX16_turnsByLots_84 (by decide) rfl ?_
    refine zX.sub (L' := [(0, .ref (Λ 1001)), (1, .int (nI 0))]) ⟨rfl, rfl, trivial⟩ ?_
    refine zX.more (nc' := 2 * (sc S 1003 - 0)) (ns' := 18 * (sc S 1003 - 0)) ?_ (by omega) (by omega)
    refine zloop (n := sc S 1003) (X := fun k => ∀ Λ2 M, zRp Z Λ2 (fTBM S A k) M → zSame Λ Λ2 → zX Z l 8 mth_X16_turnsByLots 85 [(0, .ref (Λ2 1001)), (1, .int (nI k))] [] M (2 * (sc S 1003 - k)) (18 * (sc S 1003 - k)) Q) (fun k hk ih => ?_) ?_ 0 (Nat.zero_le _) Λ M hR ⟨rfl, rfl, rfl, rfl⟩
    · intro Λ2 M hR hS
      have h4 : sc (fTBM S A k) 4 = 1 := (fTBM_c h0 hb6 (by omega) k).trans h4x
      have hc3 : sc (fTBM S A k) 1003 = sc S 1003 := fTBM_c h0 hb6 (by omega) k
      have hcP : sc (fTBM S A k) 1000 = sc S 1000 := fTBM_c h0 hb6 (by omega) k
      refine zs_iload_n (n := 86) dX16_turnsByLots_85 rfl rfl ?_
      refine zs_aload_n (n := 87) dX16_turnsByLots_86 rfl rfl ?_
      refine zs_getr (b := (Λ2 1021)) (n := 90) dX16_turnsByLots_87 gf_X16_22 (hR.kd (lvM h4 (by omega))) (hR.pt (lvM h4 (by omega)) rfl (by decide)) rfl ?_
      refine zc_size (c := sc (fTBM S A k) 1003) (n := 93) dX16_turnsByLots_90 ml_X16_46 (hR.lL' h4) (by simp) (by omega) rfl ?_
      rw [hc3]
      refine zs_icmp_ge (tgt := 149) (n := 96) dX16_turnsByLots_93 (by decide) rfl (fun h => absurd h (nI_ge hk (by omega))) (fun _ => ?_)
      have hmod := Nat.mod_lt k h0
      refine zX.more (k_tStep (S := (fTBM S A k)) (nc1 := 2 * (sc S 1003 - (k + 1))) (ns1 := 18 * (sc S 1003 - (k + 1))) (i := k % sc S 1000) (a := A k) hR h4 (by omega) (by rw [hcP]) (by omega) ((congrFun (fTBM_V h0 hb6 (by omega) (fun j i hj hi => by have := fTBM_n (A := A) h0 hi j; omega) k (by omega)) 32).trans ((u2_k (f := sV S) (a := 1001) (v := 0) (k := 672) (j := 32) (by decide) _).trans (hA k hk))) (Nat.lt_of_le_of_lt (fTBM_n (A := A) h0 hmod k) (by omega)) (fun Λ3 M hR3 hS3 => ?_)) (by omega) (by omega)
      exact ih Λ3 M hR3 ⟨hS3.1.trans hS.1, hS3.2.1.trans hS.2.1, hS3.2.2.1.trans hS.2.2.1, hS3.2.2.2.trans hS.2.2.2⟩
    · intro Λ2 M hR hS
      have h4 : sc (fTBM S A (sc S 1003)) 4 = 1 := (fTBM_c h0 hb6 (by omega) (sc S 1003)).trans h4x
      have hc3 : sc (fTBM S A (sc S 1003)) 1003 = sc S 1003 := fTBM_c h0 hb6 (by omega) (sc S 1003)
      have hcP : sc (fTBM S A (sc S 1003)) 1000 = sc S 1000 := fTBM_c h0 hb6 (by omega) (sc S 1003)
      refine zs_iload_n (n := 86) dX16_turnsByLots_85 rfl rfl ?_
      refine zs_aload_n (n := 87) dX16_turnsByLots_86 rfl rfl ?_
      refine zs_getr (b := (Λ2 1021)) (n := 90) dX16_turnsByLots_87 gf_X16_22 (hR.kd (lvM h4 (by omega))) (hR.pt (lvM h4 (by omega)) rfl (by decide)) rfl ?_
      refine zc_size (c := sc (fTBM S A (sc S 1003)) 1003) (n := 93) dX16_turnsByLots_90 ml_X16_46 (hR.lL' h4) (by simp) (by omega) rfl ?_
      rw [hc3]
      refine zs_icmp_ge (tgt := 149) (n := 96) dX16_turnsByLots_93 (by decide) rfl (fun _ => ?_) (fun h => absurd (nI_le (Nat.le_refl _) (by omega)) h)
      refine zs_aload_n (n := 150) dX16_turnsByLots_149 rfl rfl ?_
      refine zs_getr (b := (Λ2 1021)) (n := 153) dX16_turnsByLots_150 gf_X16_22 (hR.kd (lvM h4 (by omega))) (hR.pt (lvM h4 (by omega)) rfl (by decide)) rfl ?_
      refine zc_size (c := sc (fTBM S A (sc S 1003)) 1003) (n := 156) dX16_turnsByLots_153 ml_X16_46 (hR.lL' h4) (by simp) (by omega) rfl ?_
      rw [hc3]
      refine zs_ireturn dX16_turnsByLots_156 ⟨_, rfl, rfl⟩ ?_
      exact hQ _ _ hR hS
  · exact ⟨hR, hI50⟩
end ZMOD8
