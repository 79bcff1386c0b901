/-! THE MODEL PLAYS: who is at it, who begins -/
section ZMOD10
variable {Z : zPar} {l : Launch} {Λ : Nat → Nat} {S : zSt} {M M0 : zMem} {d d' : Nat} {mm : zMeth} {pc n nc ns ix nc1 ns1 : Nat} {L : List (Nat × Value)} {st : List Value} {Q : zO → zMem → Prop}
/-- is the k-th turn of a pitch played in a minute -/
def fOnM (V : Nat → Nat → Int32) (i : Nat) (m : Int32) (k : Nat) : Bool := !decide (V (1160 + 8 * i + k) 609 = -1) && fIn m (V (1160 + 8 * i + k) 609) (V (1160 + 8 * i + k) 610)
def fAtM (S : zSt) (i : Nat) (m : Int32) : Nat := zfst (fOnM (sV S) i m) (sc S (1010 + i))
theorem zfst_is {p : Nat → Bool} {n j : Nat} (h1 : j ≤ zfst p n) (h2 : p j = true) : zfst p n = j := by
  refine Nat.le_antisymm (Nat.le_of_not_lt (fun h => ?_)) h1
  rw [zfst_no h] at h2
  exact absurd h2 (by decide)
theorem zfst_up {p : Nat → Bool} {n j : Nat} (h1 : j ≤ zfst p n) (hj : j < n) (h2 : p j = false) : j + 1 ≤ zfst p n := by
  refine Nat.lt_of_le_of_ne h1 (fun e => ?_)
  have := zfst_yes (p := p) (n := n) (by omega)
  rw [← e, h2] at this
  exact absurd this (by decide)
theorem k_at {i m k : Nat} (hR : zRp Z Λ S M) (h4 : sc S 4 = 1) (hi : i < sc S 1000) (hat : fAtM S i (nI m) = k) (hk : k < sc S (1010 + i)) : zD Z l 3 mth_X13_at [.ref (Λ (1100 + i)), .int (nI m)] M 0 0 (some (.ref (Λ (1160 + 8 * i + k)))) M := by
  intro Q hQ
  have hb3 := hR.bnd.2.2 i
  have h4c := h4
  show zX Z l 3 mth_X13_at 0 [(0, .ref (Λ (1100 + i))), (1, .int (nI m))] [] M 0 0 Q
  refine zs_iconst (v := 0) (n := 1) dX13_at_0 (by decide) rfl ?_
  refine zs_istore_n (n := 2) dX13_at_1 (by decide) rfl ?_
  refine zX.sub (L' := [(0, .ref (Λ (1100 + i))), (1, .int (nI m)), (2, .int (nI 0))]) ⟨rfl, rfl, rfl, trivial⟩ ?_
  refine zloop (n := sc S (1010 + i)) (X := fun j => j ≤ fAtM S i (nI m) → zX Z l 3 mth_X13_at 2 [(0, .ref (Λ (1100 + i))), (1, .int (nI m)), (2, .int (nI j))] [] M 0 0 Q) (fun j hj ih => ?_) ?_ 0 (Nat.zero_le _) ?_
  · intro H
    have hb3 := hR.bnd.2.2 i
    refine zs_iload_n (n := 3) dX13_at_2 rfl rfl ?_
    refine zs_aload_n (n := 4) dX13_at_3 rfl rfl ?_
    refine zs_getr (b := (Λ (1120 + i))) (n := 7) dX13_at_4 gf_X13_18 (hR.kP' hi) (hR.pT' hi) rfl ?_
    refine zc_size (c := sc S (1010 + i)) (n := 10) dX13_at_7 ml_X13_33 (hR.lT' hi) (by simp) (by omega) rfl ?_
    refine zs_icmp_ge (tgt := 59) (n := 13) dX13_at_10 (by decide) rfl (fun h => absurd h (nI_ge hj (by omega))) (fun _ => ?_)
    refine zs_aload_n (n := 14) dX13_at_13 rfl rfl ?_
    refine zs_getr (b := (Λ (1120 + i))) (n := 17) dX13_at_14 gf_X13_18 (hR.kP' hi) (hR.pT' hi) rfl ?_
    refine zs_iload_n (n := 18) dX13_at_17 rfl rfl ?_
    refine zc_getb (c := sc S (1010 + i)) (b := (Λ (1160 + 8 * i + j))) (n := 21) dX13_at_18 ml_X13_37 (hR.lT' hi) hj rfl (by simp) (by omega) rfl ?_
    refine zs_castS (ci := 19) (n := 24) dX13_at_21 rfl cl_X13_41 (hR.kK' hi hj) rfl ?_
    refine zs_astore_n (n := 25) dX13_at_24 (by decide) rfl ?_
    refine zs_aload_n (n := 26) dX13_at_25 rfl rfl ?_
    refine zs_getv (x := (sV S (1160 + 8 * i + j) 609)) (n := 29) dX13_at_26 gf_X13_43 (hR.kK' hi hj) (hR.iv (lvK' hi hj) (by decide) (by decide)) rfl ?_
    refine zs_iconst (v := -1) (n := 30) dX13_at_29 (by decide) rfl ?_
    refine zs_icmp_eq (tgt := 53) (n := 33) dX13_at_30 (by decide) rfl (fun h30 => ?_) (fun h30 => ?_)
    · refine zs_iinc (v := (nI (j + 1))) (n := 56) dX13_at_53 rfl (nI_1 _) (by decide) rfl ?_
      refine zs_goto (tgt := 2) dX13_at_56 (by decide) ?_
      refine zX.sub (L' := [(0, .ref (Λ (1100 + i))), (1, .int (nI m)), (2, .int (nI (j + 1)))]) ⟨rfl, rfl, rfl, trivial⟩ ?_
      refine ih (zfst_up H hj ?_)
      unfold fOnM
      first
      | (rw [h30]; rfl)
      | (rw [zb0.mp h48, Bool.and_false])
    · refine zs_iload_n (n := 34) dX13_at_33 rfl rfl ?_
      refine zs_i2l (n := 35) dX13_at_34 rfl ?_
      refine zs_aload_n (n := 36) dX13_at_35 rfl rfl ?_
      refine zs_getv (x := (sV S (1160 + 8 * i + j) 609)) (n := 39) dX13_at_36 gf_X13_43 (hR.kK' hi hj) (hR.iv (lvK' hi hj) (by decide) (by decide)) rfl ?_
      refine zs_i2l (n := 40) dX13_at_39 rfl ?_
      refine zs_aload_n (n := 41) dX13_at_40 rfl rfl ?_
      refine zs_getv (x := (sV S (1160 + 8 * i + j) 610)) (n := 44) dX13_at_41 gf_X13_46 (hR.kK' hi hj) (hR.iv (lvK' hi hj) (by decide) (by decide)) rfl ?_
      refine zs_i2l (n := 45) dX13_at_44 rfl ?_
      refine zc_SN (n := 48) (As := [.long (nI m).toInt64, .long (sV S (1160 + 8 * i + j) 609).toInt64, .long (sV S (1160 + 8 * i + j) 610).toInt64]) (mc := 0) (ms := 0) dX13_at_45 ok_X16_in ⟨ml_X13_49, st_X16_in⟩ rfl (Nat.le_of_ble_eq_true rfl) (by simp) (by omega) (Nat.le_refl _) (Nat.le_refl _) rfl rfl (m_in (x := (nI m)) (lo := (sV S (1160 + 8 * i + j) 609)) (hi := (sV S (1160 + 8 * i + j) 610)) rfl (by first | rfl | decide) (by first | rfl | decide)) ?_
      refine zs_if_eq (tgt := 53) (n := 51) dX13_at_48 (by decide) rfl (fun h48 => ?_) (fun h48 => ?_)
      · refine zs_iinc (v := (nI (j + 1))) (n := 56) dX13_at_53 rfl (nI_1 _) (by decide) rfl ?_
        refine zs_goto (tgt := 2) dX13_at_56 (by decide) ?_
        refine zX.sub (L' := [(0, .ref (Λ (1100 + i))), (1, .int (nI m)), (2, .int (nI (j + 1)))]) ⟨rfl, rfl, rfl, trivial⟩ ?_
        refine ih (zfst_up H hj ?_)
        unfold fOnM
        first
        | (rw [h30]; rfl)
        | (rw [zb0.mp h48, Bool.and_false])
      · refine zs_aload_n (n := 52) dX13_at_51 rfl rfl ?_
        refine zs_areturn dX13_at_52 ⟨_, rfl, Or.inl ⟨_, rfl⟩⟩ ?_
        have e9 : fAtM S i (nI m) = j := zfst_is H (by unfold fOnM; rw [decide_eq_false h30, zb1.mp h48]; rfl)
        rw [e9] at hat
        subst hat
        exact hQ
  · intro H
    have hb3 := hR.bnd.2.2 i
    refine zs_iload_n (n := 3) dX13_at_2 rfl rfl ?_
    refine zs_aload_n (n := 4) dX13_at_3 rfl rfl ?_
    refine zs_getr (b := (Λ (1120 + i))) (n := 7) dX13_at_4 gf_X13_18 (hR.kP' hi) (hR.pT' hi) rfl ?_
    refine zc_size (c := sc S (1010 + i)) (n := 10) dX13_at_7 ml_X13_33 (hR.lT' hi) (by simp) (by omega) rfl ?_
    refine zs_icmp_ge (tgt := 59) (n := 13) dX13_at_10 (by decide) rfl (fun _ => ?_) (fun h => absurd (nI_le (Nat.le_refl _) (by omega)) h)
    refine zs_null (n := 60) dX13_at_59 rfl ?_
    refine zs_areturnN dX13_at_60 ⟨_, rfl, Or.inl ⟨_, rfl⟩⟩ ?_
    have e9 : fAtM S i (nI m) = sc S (1010 + i) := Nat.le_antisymm zfst_le H
    omega
  · exact Nat.zero_le _
theorem k_at_no {i m : Nat} (hR : zRp Z Λ S M) (h4 : sc S 4 = 1) (hi : i < sc S 1000) (hat : ¬ fAtM S i (nI m) < sc S (1010 + i)) : zD Z l 3 mth_X13_at [.ref (Λ (1100 + i)), .int (nI m)] M 0 0 (some .null) M := by
  intro Q hQ
  have hb3 := hR.bnd.2.2 i
  show zX Z l 3 mth_X13_at 0 [(0, .ref (Λ (1100 + i))), (1, .int (nI m))] [] M 0 0 Q
  refine zs_iconst (v := 0) (n := 1) dX13_at_0 (by decide) rfl ?_
  refine zs_istore_n (n := 2) dX13_at_1 (by decide) rfl ?_
  refine zX.sub (L' := [(0, .ref (Λ (1100 + i))), (1, .int (nI m)), (2, .int (nI 0))]) ⟨rfl, rfl, rfl, trivial⟩ ?_
  refine zloop (n := sc S (1010 + i)) (X := fun j => j ≤ fAtM S i (nI m) → zX Z l 3 mth_X13_at 2 [(0, .ref (Λ (1100 + i))), (1, .int (nI m)), (2, .int (nI j))] [] M 0 0 Q) (fun j hj ih => ?_) ?_ 0 (Nat.zero_le _) ?_
  · intro H
    have hb3 := hR.bnd.2.2 i
    refine zs_iload_n (n := 3) dX13_at_2 rfl rfl ?_
    refine zs_aload_n (n := 4) dX13_at_3 rfl rfl ?_
    refine zs_getr (b := (Λ (1120 + i))) (n := 7) dX13_at_4 gf_X13_18 (hR.kP' hi) (hR.pT' hi) rfl ?_
    refine zc_size (c := sc S (1010 + i)) (n := 10) dX13_at_7 ml_X13_33 (hR.lT' hi) (by simp) (by omega) rfl ?_
    refine zs_icmp_ge (tgt := 59) (n := 13) dX13_at_10 (by decide) rfl (fun h => absurd h (nI_ge hj (by omega))) (fun _ => ?_)
    refine zs_aload_n (n := 14) dX13_at_13 rfl rfl ?_
    refine zs_getr (b := (Λ (1120 + i))) (n := 17) dX13_at_14 gf_X13_18 (hR.kP' hi) (hR.pT' hi) rfl ?_
    refine zs_iload_n (n := 18) dX13_at_17 rfl rfl ?_
    refine zc_getb (c := sc S (1010 + i)) (b := (Λ (1160 + 8 * i + j))) (n := 21) dX13_at_18 ml_X13_37 (hR.lT' hi) hj rfl (by simp) (by omega) rfl ?_
    refine zs_castS (ci := 19) (n := 24) dX13_at_21 rfl cl_X13_41 (hR.kK' hi hj) rfl ?_
    refine zs_astore_n (n := 25) dX13_at_24 (by decide) rfl ?_
    refine zs_aload_n (n := 26) dX13_at_25 rfl rfl ?_
    refine zs_getv (x := (sV S (1160 + 8 * i + j) 609)) (n := 29) dX13_at_26 gf_X13_43 (hR.kK' hi hj) (hR.iv (lvK' hi hj) (by decide) (by decide)) rfl ?_
    refine zs_iconst (v := -1) (n := 30) dX13_at_29 (by decide) rfl ?_
    refine zs_icmp_eq (tgt := 53) (n := 33) dX13_at_30 (by decide) rfl (fun h30 => ?_) (fun h30 => ?_)
    · refine zs_iinc (v := (nI (j + 1))) (n := 56) dX13_at_53 rfl (nI_1 _) (by decide) rfl ?_
      refine zs_goto (tgt := 2) dX13_at_56 (by decide) ?_
      refine zX.sub (L' := [(0, .ref (Λ (1100 + i))), (1, .int (nI m)), (2, .int (nI (j + 1)))]) ⟨rfl, rfl, rfl, trivial⟩ ?_
      refine ih (zfst_up H hj ?_)
      unfold fOnM
      first
      | (rw [h30]; rfl)
      | (rw [zb0.mp h48, Bool.and_false])
    · refine zs_iload_n (n := 34) dX13_at_33 rfl rfl ?_
      refine zs_i2l (n := 35) dX13_at_34 rfl ?_
      refine zs_aload_n (n := 36) dX13_at_35 rfl rfl ?_
      refine zs_getv (x := (sV S (1160 + 8 * i + j) 609)) (n := 39) dX13_at_36 gf_X13_43 (hR.kK' hi hj) (hR.iv (lvK' hi hj) (by decide) (by decide)) rfl ?_
      refine zs_i2l (n := 40) dX13_at_39 rfl ?_
      refine zs_aload_n (n := 41) dX13_at_40 rfl rfl ?_
      refine zs_getv (x := (sV S (1160 + 8 * i + j) 610)) (n := 44) dX13_at_41 gf_X13_46 (hR.kK' hi hj) (hR.iv (lvK' hi hj) (by decide) (by decide)) rfl ?_
      refine zs_i2l (n := 45) dX13_at_44 rfl ?_
      refine zc_SN (n := 48) (As := [.long (nI m).toInt64, .long (sV S (1160 + 8 * i + j) 609).toInt64, .long (sV S (1160 + 8 * i + j) 610).toInt64]) (mc := 0) (ms := 0) dX13_at_45 ok_X16_in ⟨ml_X13_49, st_X16_in⟩ rfl (Nat.le_of_ble_eq_true rfl) (by simp) (by omega) (Nat.le_refl _) (Nat.le_refl _) rfl rfl (m_in (x := (nI m)) (lo := (sV S (1160 + 8 * i + j) 609)) (hi := (sV S (1160 + 8 * i + j) 610)) rfl (by first | rfl | decide) (by first | rfl | decide)) ?_
      refine zs_if_eq (tgt := 53) (n := 51) dX13_at_48 (by decide) rfl (fun h48 => ?_) (fun h48 => ?_)
      · refine zs_iinc (v := (nI (j + 1))) (n := 56) dX13_at_53 rfl (nI_1 _) (by decide) rfl ?_
        refine zs_goto (tgt := 2) dX13_at_56 (by decide) ?_
        refine zX.sub (L' := [(0, .ref (Λ (1100 + i))), (1, .int (nI m)), (2, .int (nI (j + 1)))]) ⟨rfl, rfl, rfl, trivial⟩ ?_
        refine ih (zfst_up H hj ?_)
        unfold fOnM
        first
        | (rw [h30]; rfl)
        | (rw [zb0.mp h48, Bool.and_false])
      · refine zs_aload_n (n := 52) dX13_at_51 rfl rfl ?_
        refine zs_areturn dX13_at_52 ⟨_, rfl, Or.inl ⟨_, rfl⟩⟩ ?_
        have e9 : fAtM S i (nI m) = j := zfst_is H (by unfold fOnM; rw [decide_eq_false h30, zb1.mp h48]; rfl)
        rw [e9] at hat
        omega
  · intro H
    have hb3 := hR.bnd.2.2 i
    refine zs_iload_n (n := 3) dX13_at_2 rfl rfl ?_
    refine zs_aload_n (n := 4) dX13_at_3 rfl rfl ?_
    refine zs_getr (b := (Λ (1120 + i))) (n := 7) dX13_at_4 gf_X13_18 (hR.kP' hi) (hR.pT' hi) rfl ?_
    refine zc_size (c := sc S (1010 + i)) (n := 10) dX13_at_7 ml_X13_33 (hR.lT' hi) (by simp) (by omega) rfl ?_
    refine zs_icmp_ge (tgt := 59) (n := 13) dX13_at_10 (by decide) rfl (fun _ => ?_) (fun h => absurd (nI_le (Nat.le_refl _) (by omega)) h)
    refine zs_null (n := 60) dX13_at_59 rfl ?_
    refine zs_areturnN dX13_at_60 ⟨_, rfl, Or.inl ⟨_, rfl⟩⟩ ?_
    have e9 : fAtM S i (nI m) = sc S (1010 + i) := Nat.le_antisymm zfst_le H
    exact hQ
  · exact Nat.zero_le _
theorem k_rains {m : Nat} (hR : zRp Z Λ S M) (h4 : sc S 4 = 1) : zD Z l 1 mth_X16_rains [.ref (Λ 1001), .int (nI m)] M 0 0 (some (.int (zb (fIn (nI m) (sV S 1001 682) (sV S 1001 683))))) M := by
  intro Q hQ
  show zX Z l 1 mth_X16_rains 0 [(0, .ref (Λ 1001)), (1, .int (nI m))] [] M 0 0 Q
  refine zs_iload_n (n := 1) dX16_rains_0 rfl rfl ?_
  refine zs_i2l (n := 2) dX16_rains_1 rfl ?_
  refine zs_aload_n (n := 3) dX16_rains_2 rfl rfl ?_
  refine zs_getv (x := (sV S 1001 682)) (n := 6) dX16_rains_3 gf_X16_189 (hR.kd (lvM h4 (by omega))) (hR.iv (lvM h4 (by omega)) (by decide) (by decide)) rfl ?_
  refine zs_i2l (n := 7) dX16_rains_6 rfl ?_
  refine zs_aload_n (n := 8) dX16_rains_7 rfl rfl ?_
  refine zs_getv (x := (sV S 1001 683)) (n := 11) dX16_rains_8 gf_X16_37 (hR.kd (lvM h4 (by omega))) (hR.iv (lvM h4 (by omega)) (by decide) (by decide)) rfl ?_
  refine zs_i2l (n := 12) dX16_rains_11 rfl ?_
  refine zc_S (n := 15) (As := [.long (nI m).toInt64, .long (sV S 1001 682).toInt64, .long (sV S 1001 683).toInt64]) (mc := 0) (ms := 0) dX16_rains_12 ok_X16_in ⟨ml_X16_50, st_X16_in⟩ rfl (Nat.le_of_ble_eq_true rfl) (by simp) (by omega) (Nat.le_refl _) (Nat.le_refl _) rfl rfl (m_in (x := (nI m)) (lo := (sV S 1001 682)) (hi := (sV S 1001 683)) rfl (by first | rfl | decide) (by first | rfl | decide)) ?_
  refine zs_ireturn dX16_rains_15 ⟨_, rfl, (znb _)⟩ ?_
  exact hQ
def fNxM (S : zSt) (i : Nat) : Nat := zfst (fun k => decide (sV S (1160 + 8 * i + k) 609 = -1)) (sc S (1010 + i))
def fDueM (S : zSt) (i k : Nat) : Int32 := zit (fun k _ => sV S (1160 + 8 * i + k) 610 + 6) k 600
/-- the turn that is due begins -/
def fBgM (S : zSt) (A : Nat → Nat → Nat) (i : Nat) (m : Int32) : Nat → Nat → Int32 := if fNxM S i < sc S (1010 + i) ∧ fDueM S i (fNxM S i) = m ∧ m + sV S (1140 + A i (fNxM S i)) 544 - 1 ≤ 1199 then u2 (u2 (sV S) (1160 + 8 * i + fNxM S i) 609 m) (1160 + 8 * i + fNxM S i) 610 (m + sV S (1140 + A i (fNxM S i)) 544 - 1) else sV S
def zActs (S : zSt) (A : Nat → Nat → Nat) : Prop := ∀ i k, i < sc S 1000 → k < sc S (1010 + i) → sV S (1160 + 8 * i + k) 608 = nI (A i k) ∧ A i k < sc S 1001
theorem k_begins {i m : Nat} {A : Nat → Nat → Nat} (hR : zRp Z Λ S M) (h4 : sc S 4 = 1) (hi : i < sc S 1000) (hA : zActs S A) : zG Z l 3 mth_X16_begins [.ref (Λ 1001), .ref (Λ (1100 + i)), .int (nI m)] M 0 0 none (zRp Z Λ (wV S (fBgM S A i (nI m)))) := by
  intro Q hQ
  have hb3 := hR.bnd.2.2 i
  have hb2 : sc S 1001 ≤ 8 := hR.bnd.2.1.2.1
  show zX Z l 3 mth_X16_begins 0 [(0, .ref (Λ 1001)), (1, .ref (Λ (1100 + i))), (2, .int (nI m))] [] M 0 0 Q
  refine zs_sipush (v := 600) (n := 3) dX16_begins_0 (by decide) rfl ?_
  refine zs_istore_n (n := 4) dX16_begins_3 (by decide) rfl ?_
  refine zs_iconst (v := 0) (n := 5) dX16_begins_4 (by decide) rfl ?_
  refine zs_istore (n := 7) dX16_begins_5 (by decide) rfl ?_
  refine zX.sub (L' := [(0, .ref (Λ 1001)), (1, .ref (Λ (1100 + i))), (2, .int (nI m)), (3, .int (fDueM S i 0)), (4, .int (nI 0))]) ⟨rfl, rfl, rfl, rfl, rfl, trivial⟩ ?_
  refine zloop (n := sc S (1010 + i)) (X := fun j => j ≤ fNxM S i → zX Z l 3 mth_X16_begins 7 [(0, .ref (Λ 1001)), (1, .ref (Λ (1100 + i))), (2, .int (nI m)), (3, .int (fDueM S i j)), (4, .int (nI j))] [] M 0 0 Q) (fun j hj ih => ?_) ?_ 0 (Nat.zero_le _) ?_
  · intro H
    have hb3 := hR.bnd.2.2 i
    refine zs_iload (n := 9) dX16_begins_7 rfl rfl ?_
    refine zs_aload_n (n := 10) dX16_begins_9 rfl rfl ?_
    refine zs_getr (b := (Λ (1120 + i))) (n := 13) dX16_begins_10 gf_X16_164 (hR.kP' hi) (hR.pT' hi) rfl ?_
    refine zc_size (c := sc S (1010 + i)) (n := 16) dX16_begins_13 ml_X16_46 (hR.lT' hi) (by simp) (by omega) rfl ?_
    refine zs_icmp_ge (tgt := 136) (n := 19) dX16_begins_16 (by decide) rfl (fun h => absurd h (nI_ge hj (by omega))) (fun _ => ?_)
    refine zs_aload_n (n := 20) dX16_begins_19 rfl rfl ?_
    refine zs_getr (b := (Λ (1120 + i))) (n := 23) dX16_begins_20 gf_X16_164 (hR.kP' hi) (hR.pT' hi) rfl ?_
    refine zs_iload (n := 25) dX16_begins_23 rfl rfl ?_
    refine zc_getb (c := sc S (1010 + i)) (b := (Λ (1160 + 8 * i + j))) (n := 28) dX16_begins_25 ml_X16_94 (hR.lT' hi) hj rfl (by simp) (by omega) rfl ?_
    refine zs_castS (ci := 19) (n := 31) dX16_begins_28 rfl cl_X16_167 (hR.kK' hi hj) rfl ?_
    refine zs_astore (n := 33) dX16_begins_31 (by decide) rfl ?_
    refine zs_aload (n := 35) dX16_begins_33 rfl rfl ?_
    refine zs_getv (x := (sV S (1160 + 8 * i + j) 609)) (n := 38) dX16_begins_35 gf_X16_211 (hR.kK' hi hj) (hR.iv (lvK' hi hj) (by decide) (by decide)) rfl ?_
    refine zs_iconst (v := -1) (n := 39) dX16_begins_38 (by decide) rfl ?_
    refine zs_icmp_ne (tgt := 121) (n := 42) dX16_begins_39 (by decide) rfl (fun h39 => ?_) (fun h39 => ?_)
    · refine zs_aload (n := 123) dX16_begins_121 rfl rfl ?_
      refine zs_getv (x := (sV S (1160 + 8 * i + j) 610)) (n := 126) dX16_begins_123 gf_X16_217 (hR.kK' hi hj) (hR.iv (lvK' hi hj) (by decide) (by decide)) rfl ?_
      refine zs_bipush (v := 6) (n := 128) dX16_begins_126 (by decide) rfl ?_
      refine zs_iadd (n := 129) dX16_begins_128 rfl ?_
      refine zs_istore_n (n := 130) dX16_begins_129 (by decide) rfl ?_
      refine zs_iinc (v := (nI (j + 1))) (n := 133) dX16_begins_130 rfl (nI_1 _) (by decide) rfl ?_
      refine zs_goto (tgt := 7) dX16_begins_133 (by decide) ?_
      refine zX.sub (L' := [(0, .ref (Λ 1001)), (1, .ref (Λ (1100 + i))), (2, .int (nI m)), (3, .int (fDueM S i (j + 1))), (4, .int (nI (j + 1)))]) ⟨rfl, rfl, rfl, rfl, rfl, trivial⟩ ?_
      exact ih (zfst_up H hj (decide_eq_false h39))
    · refine zs_iload_n (n := 43) dX16_begins_42 rfl rfl ?_
      refine zs_aload_n (n := 44) dX16_begins_43 rfl rfl ?_
      refine zs_getr (b := (Λ 1017)) (n := 47) dX16_begins_44 gf_X16_16 (hR.kd (lvM h4 (by omega))) (hR.pt (lvM h4 (by omega)) rfl (by decide)) rfl ?_
      refine zs_aload (n := 49) dX16_begins_47 rfl rfl ?_
      refine zs_getv (x := (sV S (1160 + 8 * i + j) 608)) (n := 52) dX16_begins_49 gf_X16_169 (hR.kK' hi hj) (hR.iv (lvK' hi hj) (by decide) (by decide)) rfl ?_
      rw [(hA i j hi hj).1]
      have haj := (hA i j hi hj).2
      refine zc_getb (c := sc S 1001) (b := (Λ (1140 + (A i j)))) (n := 55) dX16_begins_52 ml_X16_94 (hR.lA' h4) haj rfl (by simp) (by omega) rfl ?_
      refine zs_castS (ci := 17) (n := 58) dX16_begins_55 rfl cl_X16_111 (hR.kA' haj) rfl ?_
      refine zs_getv (x := (sV S (1140 + (A i j)) 544)) (n := 61) dX16_begins_58 gf_X16_214 (hR.kA' haj) (hR.iv (lvA' haj) (by decide) (by decide)) rfl ?_
      refine zs_iadd (n := 62) dX16_begins_61 rfl ?_
      refine zs_iconst (v := 1) (n := 63) dX16_begins_62 (by decide) rfl ?_
      refine zs_isub (n := 64) dX16_begins_63 rfl ?_
      refine zs_sipush (v := 1199) (n := 67) dX16_begins_64 (by decide) rfl ?_
      refine zs_icmp_gt (tgt := 74) (n := 70) dX16_begins_67 (by decide) rfl (fun h67 => ?_) (fun h67 => ?_)
      · refine zs_iconst (v := 0) (n := 75) dX16_begins_74 (by decide) rfl ?_
        refine zs_istore (n := 77) dX16_begins_75 (by decide) rfl ?_
        refine zs_iload_n (n := 78) dX16_begins_77 rfl rfl ?_
        refine zs_iload_n (n := 79) dX16_begins_78 rfl rfl ?_
        refine zs_icmp_ne (tgt := 120) (n := 82) dX16_begins_79 (by decide) rfl (fun h79 => ?_) (fun h79 => ?_)
        · refine zs_return dX16_begins_120 rfl ?_
          have ek : fNxM S i = j := zfst_is H (decide_eq_true h39)
          unfold fBgM at hQ
          rw [ek] at hQ
          first
          | (rw [if_neg (fun h => h79 h.2.1)] at hQ; exact hQ _ hR)
          | (rw [if_neg (fun h => absurd h.2.2 (Int32.not_le.mpr h67))] at hQ; exact hQ _ hR)
          | (rw [if_pos ⟨hj, h79, Int32.not_lt.mp h67⟩] at hQ; exact hQ _ hR)
        · refine zs_iload (n := 84) dX16_begins_82 rfl rfl ?_
          refine zs_if_eq (tgt := 120) (n := 87) dX16_begins_84 (by decide) rfl (fun _ => ?_) (fun h => absurd (by decide) h)
          refine zs_return dX16_begins_120 rfl ?_
          have ek : fNxM S i = j := zfst_is H (decide_eq_true h39)
          unfold fBgM at hQ
          rw [ek] at hQ
          first
          | (rw [if_neg (fun h => h79 h.2.1)] at hQ; exact hQ _ hR)
          | (rw [if_neg (fun h => absurd h.2.2 (Int32.not_le.mpr h67))] at hQ; exact hQ _ hR)
          | (rw [if_pos ⟨hj, h79, Int32.not_lt.mp h67⟩] at hQ; exact hQ _ hR)
      · refine zs_iconst (v := 1) (n := 71) dX16_begins_70 (by decide) rfl ?_
        refine zs_goto (tgt := 75) dX16_begins_71 (by decide) ?_
        refine zs_istore (n := 77) dX16_begins_75 (by decide) rfl ?_
        refine zs_iload_n (n := 78) dX16_begins_77 rfl rfl ?_
        refine zs_iload_n (n := 79) dX16_begins_78 rfl rfl ?_
        refine zs_icmp_ne (tgt := 120) (n := 82) dX16_begins_79 (by decide) rfl (fun h79 => ?_) (fun h79 => ?_)
        · refine zs_return dX16_begins_120 rfl ?_
          have ek : fNxM S i = j := zfst_is H (decide_eq_true h39)
          unfold fBgM at hQ
          rw [ek] at hQ
          first
          | (rw [if_neg (fun h => h79 h.2.1)] at hQ; exact hQ _ hR)
          | (rw [if_neg (fun h => absurd h.2.2 (Int32.not_le.mpr h67))] at hQ; exact hQ _ hR)
          | (rw [if_pos ⟨hj, h79, Int32.not_lt.mp h67⟩] at hQ; exact hQ _ hR)
        · refine zs_iload (n := 84) dX16_begins_82 rfl rfl ?_
          refine zs_if_eq (tgt := 120) (n := 87) dX16_begins_84 (by decide) rfl (fun h => absurd h (by decide)) (fun _ => ?_)
          refine zs_aload (n := 89) dX16_begins_87 rfl rfl ?_
          refine zs_iload_n (n := 90) dX16_begins_89 rfl rfl ?_
          refine zw_i (r := (1160 + 8 * i + j)) (n := 93) dX16_begins_90 pf_X16_begins_211 hR (lvK' hi hj) (hR.kK' hi hj) ⟨rfl, rfl⟩ (by decide) rfl ?_
          intro M hR hv
          refine zs_aload (n := 95) dX16_begins_93 rfl rfl ?_
          refine zs_iload_n (n := 96) dX16_begins_95 rfl rfl ?_
          refine zs_aload_n (n := 97) dX16_begins_96 rfl rfl ?_
          refine zs_getr (b := (Λ 1017)) (n := 100) dX16_begins_97 gf_X16_16 (hR.kd (lvM h4 (by omega))) (hR.pt (lvM h4 (by omega)) rfl (by decide)) rfl ?_
          refine zs_aload (n := 102) dX16_begins_100 rfl rfl ?_
          refine zs_getv (x := (sV S (1160 + 8 * i + j) 608)) (n := 105) dX16_begins_102 gf_X16_169 (hR.kK' hi hj) (hR.iv (lvK' hi hj) (by decide) (by decide)) rfl ?_
          rw [(hA i j hi hj).1]
          have haj := (hA i j hi hj).2
          refine zc_getb (c := sc S 1001) (b := (Λ (1140 + (A i j)))) (n := 108) dX16_begins_105 ml_X16_94 (hR.lA' h4) haj rfl (by simp) (by omega) rfl ?_
          refine zs_castS (ci := 17) (n := 111) dX16_begins_108 rfl cl_X16_111 (hR.kA' haj) rfl ?_
          refine zs_getv (x := (sV S (1140 + (A i j)) 544)) (n := 114) dX16_begins_111 gf_X16_214 (hR.kA' haj) (hR.iv (lvA' haj) (by decide) (by decide)) rfl ?_
          refine zs_iadd (n := 115) dX16_begins_114 rfl ?_
          refine zs_iconst (v := 1) (n := 116) dX16_begins_115 (by decide) rfl ?_
          refine zs_isub (n := 117) dX16_begins_116 rfl ?_
          refine zw_i (r := (1160 + 8 * i + j)) (n := 120) dX16_begins_117 pf_X16_begins_217 hR (lvK' hi hj) (hR.kK' hi hj) ⟨rfl, rfl⟩ (by decide) rfl ?_
          intro M hR hv
          refine zs_return dX16_begins_120 rfl ?_
          have ek : fNxM S i = j := zfst_is H (decide_eq_true h39)
          unfold fBgM at hQ
          rw [ek] at hQ
          first
          | (rw [if_neg (fun h => h79 h.2.1)] at hQ; exact hQ _ hR)
          | (rw [if_neg (fun h => absurd h.2.2 (Int32.not_le.mpr h67))] at hQ; exact hQ _ hR)
          | (rw [if_pos ⟨hj, h79, Int32.not_lt.mp h67⟩] at hQ; exact hQ _ hR)
  · intro H
    have hb3 := hR.bnd.2.2 i
    refine zs_iload (n := 9) dX16_begins_7 rfl rfl ?_
    refine zs_aload_n (n := 10) dX16_begins_9 rfl rfl ?_
    refine zs_getr (b := (Λ (1120 + i))) (n := 13) dX16_begins_10 gf_X16_164 (hR.kP' hi) (hR.pT' hi) rfl ?_
    refine zc_size (c := sc S (1010 + i)) (n := 16) dX16_begins_13 ml_X16_46 (hR.lT' hi) (by simp) (by omega) rfl ?_
    refine zs_icmp_ge (tgt := 136) (n := 19) dX16_begins_16 (by decide) rfl (fun _ => ?_) (fun h => absurd (nI_le (Nat.le_refl _) (by omega)) h)
    refine zs_return dX16_begins_136 rfl ?_
    have ek : fNxM S i = sc S (1010 + i) := Nat.le_antisymm zfst_le H
    unfold fBgM at hQ
    rw [if_neg (fun h => absurd h.1 (by omega))] at hQ
    exact hQ _ hR
  · exact Nat.zero_le _
end ZMOD10
