/-! EXCHANGE -/
section ZEXCH
variable {Z : zPar} {l : Launch} {Λ : Nat → Nat} {S : zSt} {M : zMem}
def zLs (Λ : Nat → Nat) (i t o : Nat) : Nat → Nat := fun s => Λ (zsw (160 + 8 * i + t) (160 + 8 * i + o) s)
def fEx (p t o : Nat) : Nat := if p = t then o else if p = o then t else p
theorem m_exchanged {p t o : Nat} (hp : p < 2 ^ 31) (ht : t < 2 ^ 31) (ho : o < 2 ^ 31) : zD Z l 0 mth_X11_exchanged [.int (nI p), .int (nI t), .int (nI o)] M 0 0 (some (.int (nI (fEx p t o)))) M := by
  intro Q hQ
  show zX Z l 0 mth_X11_exchanged 0 [(0, .int (nI p)), (1, .int (nI t)), (2, .int (nI o))] [] M 0 0 Q
  unfold fEx at hQ
  refine zs_iload_n (n := 1) dX11_exchanged_0 rfl rfl ?_
  refine zs_iload_n (n := 2) dX11_exchanged_1 rfl rfl ?_
  refine zs_icmp_ne (tgt := 7) (n := 5) dX11_exchanged_2 (by decide) rfl (fun h2 => ?_) (fun h2 => ?_)
  · refine zs_iload_n (n := 8) dX11_exchanged_7 rfl rfl ?_
    refine zs_iload_n (n := 9) dX11_exchanged_8 rfl rfl ?_
    refine zs_icmp_ne (tgt := 16) (n := 12) dX11_exchanged_9 (by decide) rfl (fun h9 => ?_) (fun h9 => ?_)
    · refine zs_iload_n (n := 17) dX11_exchanged_16 rfl rfl ?_
      refine zs_ireturn dX11_exchanged_17 ⟨_, rfl, rfl⟩ ?_
      first
      | (rw [if_neg (fun e => h2 (by rw [e])), if_pos ((nI_eq hp ho).mp h9)] at hQ; exact hQ)
      | (rw [if_neg (fun e => h2 (by rw [e])), if_neg (fun e => h9 (by rw [e]))] at hQ; exact hQ)
    · refine zs_iload_n (n := 13) dX11_exchanged_12 rfl rfl ?_
      refine zs_goto (tgt := 17) dX11_exchanged_13 (by decide) ?_
      refine zs_ireturn dX11_exchanged_17 ⟨_, rfl, rfl⟩ ?_
      first
      | (rw [if_neg (fun e => h2 (by rw [e])), if_pos ((nI_eq hp ho).mp h9)] at hQ; exact hQ)
      | (rw [if_neg (fun e => h2 (by rw [e])), if_neg (fun e => h9 (by rw [e]))] at hQ; exact hQ)
  · refine zs_iload_n (n := 6) dX11_exchanged_5 rfl rfl ?_
    refine zs_ireturn dX11_exchanged_6 ⟨_, rfl, rfl⟩ ?_
    rw [if_pos ((nI_eq hp ht).mp h2)] at hQ
    exact hQ
/-- the act that would stand at place j from behind -/
def fXa (S : zSt) (i t o j : Nat) : Nat := sT S i (fEx (sc S (10 + i) - 1 - j) t o)
def fXb (S : zSt) (i t o j : Nat) : Int32 := zit (fun j b => b ||| zbit (nI (fXa S i t o j))) j 0
def fAllowX (S : zSt) (i t o : Nat) : Bool := !zany (fun j => !decide (sW S 9 (fXa S i t o j) &&& fXb S i t o j = 0)) (sc S (10 + i))
theorem fEx_lt {p t o n : Nat} (hp : p < n) (ht : t < n) (ho : o < n) : fEx p t o < n := by
  unfold fEx
  split
  · exact ho
  · split <;> omega
theorem c_allowsExchange {i t o : Nat} (hR : zRp Z Λ S M) (h3 : sc S 3 = 1) (hi : i < sc S 0) (ht : t < sc S (10 + i)) (ho : o < sc S (10 + i)) (hA : ∀ a, a < sc S 1 → sV S (140 + a) 160 = nI a) : zD Z l 3 mth_X11_allowsExchange [.ref (Λ 1), .ref (Λ (120 + i)), .int (nI t), .int (nI o)] M 0 0 (some (.int (zb (fAllowX S i t o)))) M := by
  intro Q hQ
  have hb1 := hR.bnd.1.1
  have hb2 := hR.bnd.1.2.2.2 i
  have hb3 := hR.bnd.1.2.1
  show zX Z l 3 mth_X11_allowsExchange 0 [(0, .ref (Λ 1)), (1, .ref (Λ (120 + i))), (2, .int (nI t)), (3, .int (nI o))] [] M 0 0 Q
  refine zs_iconst (v := 0) (n := 1) dX11_allowsExchange_0 (by decide) rfl ?_
  refine zs_istore (n := 3) dX11_allowsExchange_1 (by decide) rfl ?_
  refine zs_aload_n (n := 4) dX11_allowsExchange_3 rfl rfl ?_
  refine zc_size (c := sc S (10 + i)) (n := 7) dX11_allowsExchange_4 ml_X11_79 (hR.lT hi) (by simp) (by omega) rfl ?_
  refine zs_iconst (v := 1) (n := 8) dX11_allowsExchange_7 (by decide) rfl ?_
  refine zs_isub (n := 9) dX11_allowsExchange_8 rfl ?_
  refine zs_istore (n := 11) dX11_allowsExchange_9 (by decide) rfl ?_
  refine zX.sub (L' := [(0, .ref (Λ 1)), (1, .ref (Λ (120 + i))), (2, .int (nI t)), (3, .int (nI o)), (4, .int (fXb S i t o 0)), (5, .int (nI (sc S (10 + i) - 0) - 1))]) ⟨rfl, rfl, rfl, rfl, rfl, rfl, trivial⟩ ?_
  refine zloop (n := sc S (10 + i)) (X := fun j => zany (fun j => !decide (sW S 9 (fXa S i t o j) &&& fXb S i t o j = 0)) j = false → zX Z l 3 mth_X11_allowsExchange 11 [(0, .ref (Λ 1)), (1, .ref (Λ (120 + i))), (2, .int (nI t)), (3, .int (nI o)), (4, .int (fXb S i t o j)), (5, .int (nI (sc S (10 + i) - j) - 1))] [] M 0 0 Q) (fun j hj ih => ?_) ?_ 0 (Nat.zero_le _) ?_
  · intro H
    rw [show nI (sc S (10 + i) - j) - 1 = nI (sc S (10 + i) - 1 - j) from by rw [show (1 : Int32) = nI 1 from rfl, pk_sub (by omega), show sc S (10 + i) - j - 1 = sc S (10 + i) - 1 - j from by omega]]
    have hpl : sc S (10 + i) - 1 - j < sc S (10 + i) := by omega
    have hex : fEx (sc S (10 + i) - 1 - j) t o < sc S (10 + i) := fEx_lt hpl ht ho
    refine zs_iload (n := 13) dX11_allowsExchange_11 rfl rfl ?_
    refine zs_if_lt (tgt := 71) (n := 16) dX11_allowsExchange_13 (by decide) rfl (fun h => absurd h (nI_pos (by omega))) (fun _ => ?_)
    refine zs_aload_n (n := 17) dX11_allowsExchange_16 rfl rfl ?_
    refine zs_iload (n := 19) dX11_allowsExchange_17 rfl rfl ?_
    refine zs_iload_n (n := 20) dX11_allowsExchange_19 rfl rfl ?_
    refine zs_iload_n (n := 21) dX11_allowsExchange_20 rfl rfl ?_
    refine zc_S (n := 24) (As := [.int (nI (sc S (10 + i) - 1 - j)), .int (nI t), .int (nI o)]) (mc := 0) (ms := 0) dX11_allowsExchange_21 ok_X11_exchanged ⟨ml_X11_382, st_X11_exchanged⟩ rfl (Nat.le_of_ble_eq_true rfl) (by simp) (by omega) (Nat.le_refl _) (Nat.le_refl _) rfl rfl (m_exchanged (by omega) (by omega) (by omega)) ?_
    refine zc_getb (c := sc S (10 + i)) (b := (Λ (160 + 8 * i + (fEx (sc S (10 + i) - 1 - j) t o)))) (n := 27) dX11_allowsExchange_24 ml_X11_103 (hR.lT hi) hex rfl (by simp) (by omega) rfl ?_
    refine zs_castS (ci := 13) (n := 30) dX11_allowsExchange_27 rfl cl_X11_198 (hR.kK hi hex) rfl ?_
    refine zs_getr (b := (Λ (140 + (sT S i (fEx (sc S (10 + i) - 1 - j) t o))))) (n := 33) dX11_allowsExchange_30 gf_X11_226 (hR.kK hi hex) (hR.act hi hex) rfl ?_
    refine zs_getv (x := (sV S (140 + (sT S i (fEx (sc S (10 + i) - 1 - j) t o))) 160)) (n := 36) dX11_allowsExchange_33 gf_X11_230 (hR.kA (hR.actb hi hex)) (hR.iv (lvA (hR.actb hi hex)) (by decide) (by decide)) rfl ?_
    rw [hA _ (hR.actb hi hex)]
    refine zs_istore (n := 38) dX11_allowsExchange_36 (by decide) rfl ?_
    have hact : fXa S i t o j < 8 := Nat.lt_of_lt_of_le (hR.actb hi hex) hb3
    have hact2 : sT S i (fEx (sc S (10 + i) - 1 - j) t o) < 8 := hact
    refine zs_aload_n (n := 39) dX11_allowsExchange_38 rfl rfl ?_
    refine zs_getr (b := (Λ 3)) (n := 42) dX11_allowsExchange_39 gf_X11_19 (hR.kd (lvC h3 (by omega))) (hR.pt (lvC h3 (by omega)) rfl (by decide)) rfl ?_
    refine zs_getr (b := (Λ 9)) (n := 45) dX11_allowsExchange_42 gf_X11_385 (hR.kd (lvC h3 (by omega))) (hR.pt (lvC h3 (by omega)) rfl (by decide)) rfl ?_
    refine zs_iload (n := 47) dX11_allowsExchange_45 rfl rfl ?_
    refine zs_ialdv (x := (sW S 9 (fXa S i t o j))) (n := 48) dX11_allowsExchange_47 (hR.kd (lvC h3 (by omega))) (by rw [show mN M (Λ 9) = 8 from (hR.ln (lvC h3 (by omega)) rfl (by decide))]; exact vp_in_nI (by first | exact hact | omega) (by omega)) (by rw [nI_clamp (by omega)]; exact hR.av (lvC h3 (by omega))) rfl ?_
    refine zs_iload (n := 50) dX11_allowsExchange_48 rfl rfl ?_
    refine zs_iand (n := 51) dX11_allowsExchange_50 rfl ?_
    refine zs_if_eq (tgt := 56) (n := 54) dX11_allowsExchange_51 (by decide) rfl (fun h51 => ?_) (fun h51 => ?_)
    · refine zs_iload (n := 58) dX11_allowsExchange_56 rfl rfl ?_
      refine zs_iconst (v := 1) (n := 59) dX11_allowsExchange_58 (by decide) rfl ?_
      refine zs_iload (n := 61) dX11_allowsExchange_59 rfl rfl ?_
      refine zs_ishl (n := 62) dX11_allowsExchange_61 rfl ?_
      refine zs_ior (n := 63) dX11_allowsExchange_62 rfl ?_
      refine zs_istore (n := 65) dX11_allowsExchange_63 (by decide) rfl ?_
      refine zs_iinc (n := 68) dX11_allowsExchange_65 rfl rfl (by decide) rfl ?_
      refine zs_goto (tgt := 11) dX11_allowsExchange_68 (by decide) ?_
      refine zX.sub (L' := [(0, .ref (Λ 1)), (1, .ref (Λ (120 + i))), (2, .int (nI t)), (3, .int (nI o)), (4, .int (fXb S i t o (j + 1))), (5, .int (nI (sc S (10 + i) - (j + 1)) - 1))]) ⟨rfl, rfl, rfl, rfl, rfl, (show some (Value.int ((nI (sc S (10 + i) - 1 - j)) + Int32.ofInt (-1))) = some (Value.int (nI (sc S (10 + i) - (j + 1)) - 1)) from congrArg (fun z => some (Value.int z)) (by rw [show sc S (10 + i) - (j + 1) = sc S (10 + i) - 1 - j from by omega, Int32.sub_eq_add_neg]; rfl)), trivial⟩ ?_
      refine ih (zany_no H ?_)
      rw [decide_eq_true (show sW S 9 (fXa S i t o j) &&& fXb S i t o j = 0 from h51)]
      rfl
    · refine zs_iconst (v := 0) (n := 55) dX11_allowsExchange_54 (by decide) rfl ?_
      refine zs_ireturn dX11_allowsExchange_55 ⟨_, rfl, rfl⟩ ?_
      unfold fAllowX at hQ
      rw [zany_hit (p := fun j => !decide (sW S 9 (fXa S i t o j) &&& fXb S i t o j = 0)) (by simp [show ¬ sW S 9 (fXa S i t o j) &&& fXb S i t o j = 0 from h51]) hj] at hQ
      exact hQ
  · intro H
    refine zs_iload (n := 13) dX11_allowsExchange_11 rfl rfl ?_
    refine zs_if_lt (tgt := 71) (n := 16) dX11_allowsExchange_13 (by decide) rfl (fun _ => ?_) (fun h => absurd (by rw [Nat.sub_self]; decide) h)
    refine zs_iconst (v := 1) (n := 72) dX11_allowsExchange_71 (by decide) rfl ?_
    refine zs_ireturn dX11_allowsExchange_72 ⟨_, rfl, rfl⟩ ?_
    unfold fAllowX at hQ
    rw [H] at hQ
    exact hQ
  · rfl
theorem f_exchange_0 {p q r : Int32} (hR : zRp Z Λ S M) (h3 : sc S 3 = 1) (hx9 : ¬ (¬ p < 0 ∧ ¬ nI (sc S 0) ≤ p)) : zTw Z l 5 mth_X11_exchange [.ref (Λ 1), .int p, .int q, .int r] M 1 6 2 M := by
  intro Q hQ
  have hb0 := hR.bnd.1.1
  have hb1 := hR.bnd.1.2.1
  have hb2 := hR.bnd.1.2.2.1
  show zX Z l 5 mth_X11_exchange 0 [(0, .ref (Λ 1)), (1, .int p), (2, .int q), (3, .int r)] [] M 1 6 Q
  refine zs_aload_n (n := 1) dX11_exchange_0 rfl rfl ?_
  refine zs_iload_n (n := 2) dX11_exchange_1 rfl rfl ?_
  exact zt_V (As := [.int p]) (ci := 16) (mc := 1) (ms := 6) (nc1 := 0) (ns1 := 0) dX11_exchange_2 ok_X11_requirePitch ⟨ml_X11_99, im_X11_requirePitch, sl_X11_requirePitch⟩ rfl (hR.kd (lvC h3 (by omega))) rfl (Nat.le_of_ble_eq_true rfl) (by simp) (by omega) (Nat.le_refl _) (Nat.le_refl _) rfl (t_requirePitch hR h3 hx9) (Or.inl ⟨rfl, hQ⟩)
theorem f_exchange_1 {i : Nat} {q r : Int32} (hR : zRp Z Λ S M) (h3 : sc S 3 = 1) (hi : i < sc S 0) (hx9 : ¬ (¬ q < 0 ∧ ¬ nI (sc S (10 + i)) ≤ q)) : zTw Z l 5 mth_X11_exchange [.ref (Λ 1), .int (nI i), .int q, .int r] M 1 6 2 M := by
  intro Q hQ
  have hb0 := hR.bnd.1.1
  have hb1 := hR.bnd.1.2.1
  have hb2 := hR.bnd.1.2.2.1
  have hb9 := hR.bnd.1.2.2.2 i
  show zX Z l 5 mth_X11_exchange 0 [(0, .ref (Λ 1)), (1, .int (nI i)), (2, .int q), (3, .int r)] [] M 1 6 Q
  refine zs_aload_n (n := 1) dX11_exchange_0 rfl rfl ?_
  refine zs_iload_n (n := 2) dX11_exchange_1 rfl rfl ?_
  refine zc_V (n := 5) (As := [.int (nI i)]) (ci := 16) (mc := 0) (ms := 0) dX11_exchange_2 ok_X11_requirePitch ⟨ml_X11_99, im_X11_requirePitch, sl_X11_requirePitch⟩ rfl (hR.kd (lvC h3 (by omega))) rfl (Nat.le_of_ble_eq_true rfl) (by simp) (by omega) (Nat.le_refl _) (Nat.le_refl _) rfl rfl (c_requirePitch hR h3 hi) ?_
  refine zs_aload_n (n := 6) dX11_exchange_5 rfl rfl ?_
  refine zs_getr (b := (Λ 2)) (n := 9) dX11_exchange_6 gf_X11_10 (hR.kd (lvC h3 (by omega))) (hR.pt (lvC h3 (by omega)) rfl (by decide)) rfl ?_
  refine zs_getr (b := (Λ 15)) (n := 12) dX11_exchange_9 gf_X11_75 (hR.kd (lvC h3 (by omega))) (hR.pt (lvC h3 (by omega)) rfl (by decide)) rfl ?_
  refine zs_iload_n (n := 13) dX11_exchange_12 rfl rfl ?_
  refine zc_getb (c := sc S 0) (b := (Λ (100 + i))) (n := 16) dX11_exchange_13 ml_X11_103 (hR.lP h3) hi rfl (by simp) (by omega) rfl ?_
  refine zs_castS (ci := 11) (n := 19) dX11_exchange_16 rfl cl_X11_90 (hR.kP hi) rfl ?_
  refine zs_getr (b := (Λ (120 + i))) (n := 22) dX11_exchange_19 gf_X11_190 (hR.kP hi) (hR.pT hi) rfl ?_
  refine zs_astore (n := 24) dX11_exchange_22 (by decide) rfl ?_
  refine zs_iload_n (n := 25) dX11_exchange_24 rfl rfl ?_
  refine zs_aload (n := 27) dX11_exchange_25 rfl rfl ?_
  refine zc_size (c := sc S (10 + i)) (n := 30) dX11_exchange_27 ml_X11_79 (hR.lT hi) (by simp) (by omega) rfl ?_
  refine zc_S (n := 33) (As := [.int q, .int (nI (sc S (10 + i)))]) (mc := 0) (ms := 0) dX11_exchange_30 ok_X11_isIndex ⟨ml_X11_208, st_X11_isIndex⟩ rfl (Nat.le_of_ble_eq_true rfl) (by simp) (by omega) (Nat.le_refl _) (Nat.le_refl _) rfl rfl m_isIndex ?_
  refine zs_if_eq (tgt := 48) (n := 36) dX11_exchange_33 (by decide) rfl (fun _ => ?_) (fun h => absurd (zix0 hx9) h)
  exact zs_throw thr_X11_exchange_48 rfl (by simp) (Nat.le_refl _) (Nat.le_refl _) hQ
theorem f_exchange_2 {i t : Nat} {r : Int32} (hR : zRp Z Λ S M) (h3 : sc S 3 = 1) (hi : i < sc S 0) (ht : t < sc S (10 + i)) (hx9 : ¬ (¬ r < 0 ∧ ¬ nI (sc S (10 + i)) ≤ r)) : zTw Z l 5 mth_X11_exchange [.ref (Λ 1), .int (nI i), .int (nI t), .int r] M 1 6 2 M := by
  intro Q hQ
  have hb0 := hR.bnd.1.1
  have hb1 := hR.bnd.1.2.1
  have hb2 := hR.bnd.1.2.2.1
  have hb9 := hR.bnd.1.2.2.2 i
  show zX Z l 5 mth_X11_exchange 0 [(0, .ref (Λ 1)), (1, .int (nI i)), (2, .int (nI t)), (3, .int r)] [] M 1 6 Q
  refine zs_aload_n (n := 1) dX11_exchange_0 rfl rfl ?_
  refine zs_iload_n (n := 2) dX11_exchange_1 rfl rfl ?_
  refine zc_V (n := 5) (As := [.int (nI i)]) (ci := 16) (mc := 0) (ms := 0) dX11_exchange_2 ok_X11_requirePitch ⟨ml_X11_99, im_X11_requirePitch, sl_X11_requirePitch⟩ rfl (hR.kd (lvC h3 (by omega))) rfl (Nat.le_of_ble_eq_true rfl) (by simp) (by omega) (Nat.le_refl _) (Nat.le_refl _) rfl rfl (c_requirePitch hR h3 hi) ?_
  refine zs_aload_n (n := 6) dX11_exchange_5 rfl rfl ?_
  refine zs_getr (b := (Λ 2)) (n := 9) dX11_exchange_6 gf_X11_10 (hR.kd (lvC h3 (by omega))) (hR.pt (lvC h3 (by omega)) rfl (by decide)) rfl ?_
  refine zs_getr (b := (Λ 15)) (n := 12) dX11_exchange_9 gf_X11_75 (hR.kd (lvC h3 (by omega))) (hR.pt (lvC h3 (by omega)) rfl (by decide)) rfl ?_
  refine zs_iload_n (n := 13) dX11_exchange_12 rfl rfl ?_
  refine zc_getb (c := sc S 0) (b := (Λ (100 + i))) (n := 16) dX11_exchange_13 ml_X11_103 (hR.lP h3) hi rfl (by simp) (by omega) rfl ?_
  refine zs_castS (ci := 11) (n := 19) dX11_exchange_16 rfl cl_X11_90 (hR.kP hi) rfl ?_
  refine zs_getr (b := (Λ (120 + i))) (n := 22) dX11_exchange_19 gf_X11_190 (hR.kP hi) (hR.pT hi) rfl ?_
  refine zs_astore (n := 24) dX11_exchange_22 (by decide) rfl ?_
  refine zs_iload_n (n := 25) dX11_exchange_24 rfl rfl ?_
  refine zs_aload (n := 27) dX11_exchange_25 rfl rfl ?_
  refine zc_size (c := sc S (10 + i)) (n := 30) dX11_exchange_27 ml_X11_79 (hR.lT hi) (by simp) (by omega) rfl ?_
  refine zc_S (n := 33) (As := [.int (nI t), .int (nI (sc S (10 + i)))]) (mc := 0) (ms := 0) dX11_exchange_30 ok_X11_isIndex ⟨ml_X11_208, st_X11_isIndex⟩ rfl (Nat.le_of_ble_eq_true rfl) (by simp) (by omega) (Nat.le_refl _) (Nat.le_refl _) rfl rfl m_isIndex ?_
  refine zs_if_eq (tgt := 48) (n := 36) dX11_exchange_33 (by decide) rfl (fun h => absurd h (zix1 ht (by omega))) (fun _ => ?_)
  refine zs_iload_n (n := 37) dX11_exchange_36 rfl rfl ?_
  refine zs_aload (n := 39) dX11_exchange_37 rfl rfl ?_
  refine zc_size (c := sc S (10 + i)) (n := 42) dX11_exchange_39 ml_X11_79 (hR.lT hi) (by simp) (by omega) rfl ?_
  refine zc_S (n := 45) (As := [.int r, .int (nI (sc S (10 + i)))]) (mc := 0) (ms := 0) dX11_exchange_42 ok_X11_isIndex ⟨ml_X11_208, st_X11_isIndex⟩ rfl (Nat.le_of_ble_eq_true rfl) (by simp) (by omega) (Nat.le_refl _) (Nat.le_refl _) rfl rfl m_isIndex ?_
  refine zs_if_ne (tgt := 58) (n := 48) dX11_exchange_45 (by decide) rfl (fun h => absurd h (fun h9 => h9 (zix0 hx9))) (fun _ => ?_)
  exact zs_throw thr_X11_exchange_48 rfl (by simp) (Nat.le_refl _) (Nat.le_refl _) hQ
theorem f_exchange_3 {i t o : Nat} (hR : zRp Z Λ S M) (h3 : sc S 3 = 1) (hi : i < sc S 0) (ht : t < sc S (10 + i)) (ho : o < sc S (10 + i)) (hp : ¬ sV S 7 228 = 0) : zTw Z l 5 mth_X11_exchange [.ref (Λ 1), .int (nI i), .int (nI t), .int (nI o)] M 1 6 1 M := by
  intro Q hQ
  have hb0 := hR.bnd.1.1
  have hb1 := hR.bnd.1.2.1
  have hb2 := hR.bnd.1.2.2.1
  have hb9 := hR.bnd.1.2.2.2 i
  show zX Z l 5 mth_X11_exchange 0 [(0, .ref (Λ 1)), (1, .int (nI i)), (2, .int (nI t)), (3, .int (nI o))] [] M 1 6 Q
  refine zs_aload_n (n := 1) dX11_exchange_0 rfl rfl ?_
  refine zs_iload_n (n := 2) dX11_exchange_1 rfl rfl ?_
  refine zc_V (n := 5) (As := [.int (nI i)]) (ci := 16) (mc := 0) (ms := 0) dX11_exchange_2 ok_X11_requirePitch ⟨ml_X11_99, im_X11_requirePitch, sl_X11_requirePitch⟩ rfl (hR.kd (lvC h3 (by omega))) rfl (Nat.le_of_ble_eq_true rfl) (by simp) (by omega) (Nat.le_refl _) (Nat.le_refl _) rfl rfl (c_requirePitch hR h3 hi) ?_
  refine zs_aload_n (n := 6) dX11_exchange_5 rfl rfl ?_
  refine zs_getr (b := (Λ 2)) (n := 9) dX11_exchange_6 gf_X11_10 (hR.kd (lvC h3 (by omega))) (hR.pt (lvC h3 (by omega)) rfl (by decide)) rfl ?_
  refine zs_getr (b := (Λ 15)) (n := 12) dX11_exchange_9 gf_X11_75 (hR.kd (lvC h3 (by omega))) (hR.pt (lvC h3 (by omega)) rfl (by decide)) rfl ?_
  refine zs_iload_n (n := 13) dX11_exchange_12 rfl rfl ?_
  refine zc_getb (c := sc S 0) (b := (Λ (100 + i))) (n := 16) dX11_exchange_13 ml_X11_103 (hR.lP h3) hi rfl (by simp) (by omega) rfl ?_
  refine zs_castS (ci := 11) (n := 19) dX11_exchange_16 rfl cl_X11_90 (hR.kP hi) rfl ?_
  refine zs_getr (b := (Λ (120 + i))) (n := 22) dX11_exchange_19 gf_X11_190 (hR.kP hi) (hR.pT hi) rfl ?_
  refine zs_astore (n := 24) dX11_exchange_22 (by decide) rfl ?_
  refine zs_iload_n (n := 25) dX11_exchange_24 rfl rfl ?_
  refine zs_aload (n := 27) dX11_exchange_25 rfl rfl ?_
  refine zc_size (c := sc S (10 + i)) (n := 30) dX11_exchange_27 ml_X11_79 (hR.lT hi) (by simp) (by omega) rfl ?_
  refine zc_S (n := 33) (As := [.int (nI t), .int (nI (sc S (10 + i)))]) (mc := 0) (ms := 0) dX11_exchange_30 ok_X11_isIndex ⟨ml_X11_208, st_X11_isIndex⟩ rfl (Nat.le_of_ble_eq_true rfl) (by simp) (by omega) (Nat.le_refl _) (Nat.le_refl _) rfl rfl m_isIndex ?_
  refine zs_if_eq (tgt := 48) (n := 36) dX11_exchange_33 (by decide) rfl (fun h => absurd h (zix1 ht (by omega))) (fun _ => ?_)
  refine zs_iload_n (n := 37) dX11_exchange_36 rfl rfl ?_
  refine zs_aload (n := 39) dX11_exchange_37 rfl rfl ?_
  refine zc_size (c := sc S (10 + i)) (n := 42) dX11_exchange_39 ml_X11_79 (hR.lT hi) (by simp) (by omega) rfl ?_
  refine zc_S (n := 45) (As := [.int (nI o), .int (nI (sc S (10 + i)))]) (mc := 0) (ms := 0) dX11_exchange_42 ok_X11_isIndex ⟨ml_X11_208, st_X11_isIndex⟩ rfl (Nat.le_of_ble_eq_true rfl) (by simp) (by omega) (Nat.le_refl _) (Nat.le_refl _) rfl rfl m_isIndex ?_
  refine zs_if_ne (tgt := 58) (n := 48) dX11_exchange_45 (by decide) rfl (fun _ => ?_) (fun h => absurd h (zix1 ho (by omega)))
  refine zs_aload_n (n := 59) dX11_exchange_58 rfl rfl ?_
  exact zt_V (As := []) (ci := 16) (mc := 1) (ms := 6) (nc1 := 0) (ns1 := 0) dX11_exchange_59 ok_X11_requireNotPlayed ⟨ml_X11_187, im_X11_requireNotPlayed, sl_X11_requireNotPlayed⟩ rfl (hR.kd (lvC h3 (by omega))) rfl (Nat.le_of_ble_eq_true rfl) (by simp) (by omega) (Nat.le_refl _) (Nat.le_refl _) rfl (t_requireNotPlayed hR h3 hp) (Or.inl ⟨rfl, hQ⟩)
theorem f_exchange_4 {i t o : Nat} (hR : zRp Z Λ S M) (h3 : sc S 3 = 1) (hi : i < sc S 0) (ht : t < sc S (10 + i)) (ho : o < sc S (10 + i)) (hA : ∀ a, a < sc S 1 → sV S (140 + a) 160 = nI a) (hp : sV S 7 228 = 0) (hx9 : fAllowX S i t o = false) : zTw Z l 5 mth_X11_exchange [.ref (Λ 1), .int (nI i), .int (nI t), .int (nI o)] M 1 6 4 M := by
  intro Q hQ
  have hb0 := hR.bnd.1.1
  have hb1 := hR.bnd.1.2.1
  have hb2 := hR.bnd.1.2.2.1
  have hb9 := hR.bnd.1.2.2.2 i
  show zX Z l 5 mth_X11_exchange 0 [(0, .ref (Λ 1)), (1, .int (nI i)), (2, .int (nI t)), (3, .int (nI o))] [] M 1 6 Q
  refine zs_aload_n (n := 1) dX11_exchange_0 rfl rfl ?_
  refine zs_iload_n (n := 2) dX11_exchange_1 rfl rfl ?_
  refine zc_V (n := 5) (As := [.int (nI i)]) (ci := 16) (mc := 0) (ms := 0) dX11_exchange_2 ok_X11_requirePitch ⟨ml_X11_99, im_X11_requirePitch, sl_X11_requirePitch⟩ rfl (hR.kd (lvC h3 (by omega))) rfl (Nat.le_of_ble_eq_true rfl) (by simp) (by omega) (Nat.le_refl _) (Nat.le_refl _) rfl rfl (c_requirePitch hR h3 hi) ?_
  refine zs_aload_n (n := 6) dX11_exchange_5 rfl rfl ?_
  refine zs_getr (b := (Λ 2)) (n := 9) dX11_exchange_6 gf_X11_10 (hR.kd (lvC h3 (by omega))) (hR.pt (lvC h3 (by omega)) rfl (by decide)) rfl ?_
  refine zs_getr (b := (Λ 15)) (n := 12) dX11_exchange_9 gf_X11_75 (hR.kd (lvC h3 (by omega))) (hR.pt (lvC h3 (by omega)) rfl (by decide)) rfl ?_
  refine zs_iload_n (n := 13) dX11_exchange_12 rfl rfl ?_
  refine zc_getb (c := sc S 0) (b := (Λ (100 + i))) (n := 16) dX11_exchange_13 ml_X11_103 (hR.lP h3) hi rfl (by simp) (by omega) rfl ?_
  refine zs_castS (ci := 11) (n := 19) dX11_exchange_16 rfl cl_X11_90 (hR.kP hi) rfl ?_
  refine zs_getr (b := (Λ (120 + i))) (n := 22) dX11_exchange_19 gf_X11_190 (hR.kP hi) (hR.pT hi) rfl ?_
  refine zs_astore (n := 24) dX11_exchange_22 (by decide) rfl ?_
  refine zs_iload_n (n := 25) dX11_exchange_24 rfl rfl ?_
  refine zs_aload (n := 27) dX11_exchange_25 rfl rfl ?_
  refine zc_size (c := sc S (10 + i)) (n := 30) dX11_exchange_27 ml_X11_79 (hR.lT hi) (by simp) (by omega) rfl ?_
  refine zc_S (n := 33) (As := [.int (nI t), .int (nI (sc S (10 + i)))]) (mc := 0) (ms := 0) dX11_exchange_30 ok_X11_isIndex ⟨ml_X11_208, st_X11_isIndex⟩ rfl (Nat.le_of_ble_eq_true rfl) (by simp) (by omega) (Nat.le_refl _) (Nat.le_refl _) rfl rfl m_isIndex ?_
  refine zs_if_eq (tgt := 48) (n := 36) dX11_exchange_33 (by decide) rfl (fun h => absurd h (zix1 ht (by omega))) (fun _ => ?_)
  refine zs_iload_n (n := 37) dX11_exchange_36 rfl rfl ?_
  refine zs_aload (n := 39) dX11_exchange_37 rfl rfl ?_
  refine zc_size (c := sc S (10 + i)) (n := 42) dX11_exchange_39 ml_X11_79 (hR.lT hi) (by simp) (by omega) rfl ?_
  refine zc_S (n := 45) (As := [.int (nI o), .int (nI (sc S (10 + i)))]) (mc := 0) (ms := 0) dX11_exchange_42 ok_X11_isIndex ⟨ml_X11_208, st_X11_isIndex⟩ rfl (Nat.le_of_ble_eq_true rfl) (by simp) (by omega) (Nat.le_refl _) (Nat.le_refl _) rfl rfl m_isIndex ?_
  refine zs_if_ne (tgt := 58) (n := 48) dX11_exchange_45 (by decide) rfl (fun _ => ?_) (fun h => absurd h (zix1 ho (by omega)))
  refine zs_aload_n (n := 59) dX11_exchange_58 rfl rfl ?_
  refine zc_V (n := 62) (As := []) (ci := 16) (mc := 0) (ms := 0) dX11_exchange_59 ok_X11_requireNotPlayed ⟨ml_X11_187, im_X11_requireNotPlayed, sl_X11_requireNotPlayed⟩ rfl (hR.kd (lvC h3 (by omega))) rfl (Nat.le_of_ble_eq_true rfl) (by simp) (by omega) (Nat.le_refl _) (Nat.le_refl _) rfl rfl (c_requireNotPlayed hR h3 hp) ?_
  refine zs_aload_n (n := 63) dX11_exchange_62 rfl rfl ?_
  refine zs_aload (n := 65) dX11_exchange_63 rfl rfl ?_
  refine zs_iload_n (n := 66) dX11_exchange_65 rfl rfl ?_
  refine zs_iload_n (n := 67) dX11_exchange_66 rfl rfl ?_
  refine zc_V (n := 70) (As := [.ref (Λ (120 + i)), .int (nI t), .int (nI o)]) (ci := 16) (mc := 0) (ms := 0) dX11_exchange_67 ok_X11_allowsExchange ⟨ml_X11_216, im_X11_allowsExchange, sl_X11_allowsExchange⟩ rfl (hR.kd (lvC h3 (by omega))) rfl (Nat.le_of_ble_eq_true rfl) (by simp) (by omega) (Nat.le_refl _) (Nat.le_refl _) rfl rfl (c_allowsExchange hR h3 hi ht ho hA) ?_
  refine zs_if_ne (tgt := 83) (n := 73) dX11_exchange_70 (by decide) rfl (fun h => absurd h (fun h9 => h9 (by rw [hx9]; rfl))) (fun _ => ?_)
  exact zs_throw thr_X11_exchange_73 rfl (by simp) (Nat.le_refl _) (Nat.le_refl _) hQ
theorem f_exchange {i t o : Nat} (hR : zRp Z Λ S M) (h3 : sc S 3 = 1) (hi : i < sc S 0) (ht : t < sc S (10 + i)) (ho : o < sc S (10 + i)) (hA : ∀ a, a < sc S 1 → sV S (140 + a) 160 = nI a) (hp : sV S 7 228 = 0) (hx9 : fAllowX S i t o = true) {Q : zO → zMem → Prop} (hQ : ∀ Λ' M', zRp Z Λ' (fSwap S i t o) M' → zSame Λ Λ' → Q (.inl (some (.int (zb (!decide (sT (fSwap S i t o) i t = sT (fSwap S i t o) i o)))))) M') : zX Z l 5 mth_X11_exchange 0 (lv_args 0 [.ref (Λ 1), .int (nI i), .int (nI t), .int (nI o)]) [] M 0 0 Q := by
  show zX Z l 5 mth_X11_exchange 0 [(0, .ref (Λ 1)), (1, .int (nI i)), (2, .int (nI t)), (3, .int (nI o))] [] M 0 0 Q
  have hb0 := hR.bnd.1.1
  have hb1 := hR.bnd.1.2.1
  have hb9 := hR.bnd.1.2.2.2 i
  refine zs_aload_n (n := 1) dX11_exchange_0 rfl rfl ?_
  refine zs_iload_n (n := 2) dX11_exchange_1 rfl rfl ?_
  refine zc_V (n := 5) (As := [.int (nI i)]) (ci := 16) (mc := 0) (ms := 0) dX11_exchange_2 ok_X11_requirePitch ⟨ml_X11_99, im_X11_requirePitch, sl_X11_requirePitch⟩ rfl (hR.kd (lvC h3 (by omega))) rfl (Nat.le_of_ble_eq_true rfl) (by simp) (by omega) (Nat.le_refl _) (Nat.le_refl _) rfl rfl (c_requirePitch hR h3 hi) ?_
  refine zs_aload_n (n := 6) dX11_exchange_5 rfl rfl ?_
  refine zs_getr (b := (Λ 2)) (n := 9) dX11_exchange_6 gf_X11_10 (hR.kd (lvC h3 (by omega))) (hR.pt (lvC h3 (by omega)) rfl (by decide)) rfl ?_
  refine zs_getr (b := (Λ 15)) (n := 12) dX11_exchange_9 gf_X11_75 (hR.kd (lvC h3 (by omega))) (hR.pt (lvC h3 (by omega)) rfl (by decide)) rfl ?_
  refine zs_iload_n (n := 13) dX11_exchange_12 rfl rfl ?_
  refine zc_getb (c := sc S 0) (b := (Λ (100 + i))) (n := 16) dX11_exchange_13 ml_X11_103 (hR.lP h3) hi rfl (by simp) (by omega) rfl ?_
  refine zs_castS (ci := 11) (n := 19) dX11_exchange_16 rfl cl_X11_90 (hR.kP hi) rfl ?_
  refine zs_getr (b := (Λ (120 + i))) (n := 22) dX11_exchange_19 gf_X11_190 (hR.kP hi) (hR.pT hi) rfl ?_
  refine zs_astore (n := 24) dX11_exchange_22 (by decide) rfl ?_
  refine zs_iload_n (n := 25) dX11_exchange_24 rfl rfl ?_
  refine zs_aload (n := 27) dX11_exchange_25 rfl rfl ?_
  refine zc_size (c := sc S (10 + i)) (n := 30) dX11_exchange_27 ml_X11_79 (hR.lT hi) (by simp) (by omega) rfl ?_
  refine zc_S (n := 33) (As := [.int (nI t), .int (nI (sc S (10 + i)))]) (mc := 0) (ms := 0) dX11_exchange_30 ok_X11_isIndex ⟨ml_X11_208, st_X11_isIndex⟩ rfl (Nat.le_of_ble_eq_true rfl) (by simp) (by omega) (Nat.le_refl _) (Nat.le_refl _) rfl rfl m_isIndex ?_
  refine zs_if_eq (tgt := 48) (n := 36) dX11_exchange_33 (by decide) rfl (fun h => absurd h (zix1 ht (by omega))) (fun _ => ?_)
  refine zs_iload_n (n := 37) dX11_exchange_36 rfl rfl ?_
  refine zs_aload (n := 39) dX11_exchange_37 rfl rfl ?_
  refine zc_size (c := sc S (10 + i)) (n := 42) dX11_exchange_39 ml_X11_79 (hR.lT hi) (by simp) (by omega) rfl ?_
  refine zc_S (n := 45) (As := [.int (nI o), .int (nI (sc S (10 + i)))]) (mc := 0) (ms := 0) dX11_exchange_42 ok_X11_isIndex ⟨ml_X11_208, st_X11_isIndex⟩ rfl (Nat.le_of_ble_eq_true rfl) (by simp) (by omega) (Nat.le_refl _) (Nat.le_refl _) rfl rfl m_isIndex ?_
  refine zs_if_ne (tgt := 58) (n := 48) dX11_exchange_45 (by decide) rfl (fun _ => ?_) (fun h => absurd h (zix1 ho (by omega)))
  refine zs_aload_n (n := 59) dX11_exchange_58 rfl rfl ?_
  refine zc_V (n := 62) (As := []) (ci := 16) (mc := 0) (ms := 0) dX11_exchange_59 ok_X11_requireNotPlayed ⟨ml_X11_187, im_X11_requireNotPlayed, sl_X11_requireNotPlayed⟩ rfl (hR.kd (lvC h3 (by omega))) rfl (Nat.le_of_ble_eq_true rfl) (by simp) (by omega) (Nat.le_refl _) (Nat.le_refl _) rfl rfl (c_requireNotPlayed hR h3 hp) ?_
  refine zs_aload_n (n := 63) dX11_exchange_62 rfl rfl ?_
  refine zs_aload (n := 65) dX11_exchange_63 rfl rfl ?_
  refine zs_iload_n (n := 66) dX11_exchange_65 rfl rfl ?_
  refine zs_iload_n (n := 67) dX11_exchange_66 rfl rfl ?_
  refine zc_V (n := 70) (As := [.ref (Λ (120 + i)), .int (nI t), .int (nI o)]) (ci := 16) (mc := 0) (ms := 0) dX11_exchange_67 ok_X11_allowsExchange ⟨ml_X11_216, im_X11_allowsExchange, sl_X11_allowsExchange⟩ rfl (hR.kd (lvC h3 (by omega))) rfl (Nat.le_of_ble_eq_true rfl) (by simp) (by omega) (Nat.le_refl _) (Nat.le_refl _) rfl rfl (c_allowsExchange hR h3 hi ht ho hA) ?_
  refine zs_if_ne (tgt := 83) (n := 73) dX11_exchange_70 (by decide) rfl (fun _ => ?_) (fun h => absurd h (by rw [hx9]; decide))
  refine zs_aload (n := 85) dX11_exchange_83 rfl rfl ?_
  refine zs_iload_n (n := 86) dX11_exchange_85 rfl rfl ?_
  refine zc_getb (c := sc S (10 + i)) (b := (Λ (160 + 8 * i + t))) (n := 89) dX11_exchange_86 ml_X11_103 (hR.lT hi) ht rfl (by simp) (by omega) rfl ?_
  refine zs_castS (ci := 13) (n := 92) dX11_exchange_89 rfl cl_X11_198 (hR.kK hi ht) rfl ?_
  refine zs_astore (n := 94) dX11_exchange_92 (by decide) rfl ?_
  refine zs_aload (n := 96) dX11_exchange_94 rfl rfl ?_
  refine zs_iload_n (n := 97) dX11_exchange_96 rfl rfl ?_
  refine zc_getb (c := sc S (10 + i)) (b := (Λ (160 + 8 * i + o))) (n := 100) dX11_exchange_97 ml_X11_103 (hR.lT hi) ho rfl (by simp) (by omega) rfl ?_
  refine zs_castS (ci := 13) (n := 103) dX11_exchange_100 rfl cl_X11_198 (hR.kK hi ho) rfl ?_
  refine zs_astore (n := 105) dX11_exchange_103 (by decide) rfl ?_
  refine zs_aload (n := 107) dX11_exchange_105 rfl rfl ?_
  refine zs_iload_n (n := 108) dX11_exchange_107 rfl rfl ?_
  refine zs_aload (n := 110) dX11_exchange_108 rfl rfl ?_
  have hL := hR.lT hi
  have he3 : mK M (Λ (130 + i)) = 3 := by
    rcases hL.row with h9 | h9
    · omega
    · exact h9
  refine zc_set (ci := 13) (n := 113) dX11_exchange_110 ml_X11_222 hL ht (hR.kK hi ho) rfl co_X8 (by simp) (by omega) rfl ?_
  refine zs_pop (n := 114) dX11_exchange_113 rfl rfl ?_
  refine zs_aload (n := 116) dX11_exchange_114 rfl rfl ?_
  refine zs_iload_n (n := 117) dX11_exchange_116 rfl rfl ?_
  refine zs_aload (n := 119) dX11_exchange_117 rfl rfl ?_
  have hL2 : zL Z (sAR M (Λ (130 + i)) t (some (Λ (160 + 8 * i + o)))) (Λ (120 + i)) (Λ (130 + i)) (sc S (10 + i)) (fun k => if k = t then Λ (160 + 8 * i + o) else Λ (160 + 8 * i + k)) := by
    refine ⟨hL.1, hL.2.1, hL.2.2.1, hL.2.2.2.1, fun k hk => ?_⟩
    show u2 (aR M) (Λ (130 + i)) t (some (Λ (160 + 8 * i + o))) (Λ (130 + i)) k = some (if k = t then _ else _)
    by_cases e : k = t
    · subst e
      rw [u2_at, if_pos rfl]
    · rw [u2_nk e, if_neg e]
      exact hL.2.2.2.2 k hk
  refine zc_set (ci := 13) (n := 122) dX11_exchange_119 ml_X11_222 hL2 ho (hR.kK hi ht) rfl co_X8 (by simp) (by omega) rfl ?_
  refine zs_pop (n := 123) dX11_exchange_122 rfl rfl ?_
  refine zX.mark (fun a => zsw (160 + 8 * i + t) (160 + 8 * i + o) (mG M a)) ?_
  have hR : zRp Z (zLs Λ i t o) (fSwap S i t o) (mSwap Λ M i t o) := hR.swap hi ht ho
  have hsc : sc (fSwap S i t o) = sc S := rfl
  have eT : Λ (160 + 8 * i + t) = (zLs Λ i t o) (160 + 8 * i + o) := congrArg Λ zsw_b.symm
  have eO : Λ (160 + 8 * i + o) = (zLs Λ i t o) (160 + 8 * i + t) := congrArg Λ zsw_a.symm
  have e1 : (zLs Λ i t o) 1 = Λ 1 := congrArg Λ (zsw_n (by omega) (by omega))
  have hSm : zSame Λ (zLs Λ i t o) := ⟨e1, congrArg Λ (zsw_n (by omega) (by omega)), congrArg Λ (zsw_n (by omega) (by omega)), congrArg Λ (zsw_n (by omega) (by omega))⟩
  refine zX.sub (L' := [(5, .ref (Λ (160 + 8 * i + t))), (6, .ref (Λ (160 + 8 * i + o)))]) ⟨rfl, rfl, trivial⟩ ?_
  show zX Z l 5 mth_X11_exchange 123 [(5, .ref (Λ (160 + 8 * i + t))), (6, .ref (Λ (160 + 8 * i + o)))] [] (mSwap Λ M i t o) 0 0 Q
  rw [eT, eO]
  revert hR hSm
  generalize (zLs Λ i t o) = Λ2
  generalize (mSwap Λ M i t o) = M2
  intro hR hSm
  have hao : sT (fSwap S i t o) i o < sc S 1 := hR.actb hi ho
  have hat : sT (fSwap S i t o) i t < sc S 1 := hR.actb hi ht
  refine zs_aload (n := 125) dX11_exchange_123 rfl rfl ?_
  refine zs_getr (b := Λ2 (140 + sT (fSwap S i t o) i o)) (n := 128) dX11_exchange_125 gf_X11_226 (hR.kK hi ho) (hR.act hi ho) rfl ?_
  refine zs_getv (x := sV (fSwap S i t o) (140 + sT (fSwap S i t o) i o) 160) (n := 131) dX11_exchange_128 gf_X11_230 (hR.kA (hR.actb hi ho)) (hR.iv (lvA (hR.actb hi ho)) (by decide) (by decide)) rfl ?_
  rw [show sV (fSwap S i t o) (140 + sT (fSwap S i t o) i o) 160 = nI (sT (fSwap S i t o) i o) from (congrArg (fun z => sV S z 160) (zsw_n (by omega) (by omega))).trans (hA _ (hR.actb hi ho))]
  refine zs_aload (n := 133) dX11_exchange_131 rfl rfl ?_
  refine zs_getr (b := Λ2 (140 + sT (fSwap S i t o) i t)) (n := 136) dX11_exchange_133 gf_X11_226 (hR.kK hi ht) (hR.act hi ht) rfl ?_
  refine zs_getv (x := sV (fSwap S i t o) (140 + sT (fSwap S i t o) i t) 160) (n := 139) dX11_exchange_136 gf_X11_230 (hR.kA (hR.actb hi ht)) (hR.iv (lvA (hR.actb hi ht)) (by decide) (by decide)) rfl ?_
  rw [show sV (fSwap S i t o) (140 + sT (fSwap S i t o) i t) 160 = nI (sT (fSwap S i t o) i t) from (congrArg (fun z => sV S z 160) (zsw_n (by omega) (by omega))).trans (hA _ (hR.actb hi ht))]
  refine zs_icmp_eq (tgt := 146) (n := 142) dX11_exchange_139 (by decide) rfl (fun h139 => ?_) (fun h139 => ?_)
  · refine zs_iconst (v := 0) (n := 147) dX11_exchange_146 (by decide) rfl ?_
    refine zs_ireturn dX11_exchange_147 ⟨_, rfl, rfl⟩ ?_
    have h9 := (nI_eq (by omega) (by omega)).mp h139
    have h8 := hQ _ _ hR hSm
    rw [decide_eq_true (show sT (fSwap S i t o) i t = sT (fSwap S i t o) i o from h9.symm)] at h8
    exact h8
  · refine zs_iconst (v := 1) (n := 143) dX11_exchange_142 (by decide) rfl ?_
    refine zs_goto (tgt := 147) dX11_exchange_143 (by decide) ?_
    refine zs_ireturn dX11_exchange_147 ⟨_, rfl, rfl⟩ ?_
    have h8 := hQ _ _ hR hSm
    rw [decide_eq_false (show ¬ sT (fSwap S i t o) i t = sT (fSwap S i t o) i o from fun e => h139 (by rw [e]))] at h8
    exact h8
end ZEXCH
