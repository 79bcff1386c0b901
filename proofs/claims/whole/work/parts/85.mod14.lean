/-! THE MODEL PLAYS: goesOn as a whole; a minute's first two rounds -/
section ZMOD14
variable {Z : zPar} {l : Launch} {Λ : Nat → Nat} {S : zSt} {M M0 : zMem} {d d' : Nat} {mm : zMeth} {pc n nc ns ix nc1 ns1 : Nat} {L : List (Nat × Value)} {st : List Value} {Q : zO → zMem → Prop}
theorem fGrp_n {V : Nat → Nat → Int32} {g : Int32} : ∀ n, ∃ c, fGrp V g n = nI c ∧ c ≤ n ∧ ∀ a, a < n → V (1140 + a) 551 = g → 1 ≤ c
  | 0 => ⟨0, rfl, Nat.le_refl _, fun a ha => absurd ha (Nat.not_lt_zero a)⟩
  | n + 1 => by
    obtain ⟨c, h1, h2, h3⟩ := fGrp_n (V := V) (g := g) n
    by_cases h : V (1140 + n) 551 = g
    · refine ⟨c + 1, ?_, by omega, fun _ _ _ => by omega⟩
      show fGrp V g n + (if V (1140 + n) 551 = g then 1 else 0) = nI (c + 1)
      rw [if_pos h, h1, nI_1]
    · refine ⟨c, ?_, by omega, fun a ha hg => h3 a ?_ hg⟩
      · show fGrp V g n + (if V (1140 + n) 551 = g then 1 else 0) = nI c
        rw [if_neg h, h1, Int32.add_zero]
      · by_cases e : a = n
        · subst e
          exact absurd hg h
        · omega
theorem fGvP_ne {a : Nat} (ha : a < sc S 1001) (h8 : sc S 1001 ≤ 8) : ¬ fGvP S a = 0 := by
  obtain ⟨c, h1, h2, h3⟩ := fGrp_n (V := sV S) (g := sV S (1140 + a) 551) (sc S 1001)
  unfold fGvP
  rw [h1]
  exact nI_ne0 (h3 a ha rfl) (by omega)
def fGoes (S : zSt) (i t a m : Nat) (dr : Bool) : Nat → Nat → Int32 := fEndM (wV S (fGoM S i t a m (fWetM S i m) dr)) t a m
theorem k_goes {i k a m : Nat} (hR : zRp Z Λ S M) (h4 : sc S 4 = 1) (hi : i < sc S 1000) (hk : k < sc S (1010 + i)) (ha : a < sc S 1001) (hak : sV S (1160 + 8 * i + k) 608 = nI a) (h6 : 600 ≤ m) (h12 : m < 1200) (dr : Bool) (hnc : fGivM (wV S (fGoM S i (1160 + 8 * i + k) a m (fWetM S i m) dr)) (1160 + 8 * i + k) m → 3 + nc1 ≤ nc ∧ 12 + ns1 ≤ ns)
    (hQ : ∀ M', zRp Z Λ (wV S (fGoes S i (1160 + 8 * i + k) a m dr)) M' → Q (.inl none) M') : zX Z l 4 mth_X16_goesOn 0 (lv_args 0 [.ref (Λ 1001), .ref (Λ (1100 + i)), .ref (Λ (1160 + 8 * i + k)), .int (zb dr), .int (nI m)]) [] M nc ns Q := by
  show zX Z l 4 mth_X16_goesOn 0 [(0, .ref (Λ 1001)), (1, .ref (Λ (1100 + i))), (2, .ref (Λ (1160 + 8 * i + k))), (3, .int (zb dr)), (4, .int (nI m))] [] M nc ns Q
  have hb2 : sc S 1001 ≤ 8 := hR.bnd.2.1.2.1
  refine k_goA hR h4 hi hk ha hak h6 h12 dr (fun M' hR' => ?_)
  exact k_goE (nc1 := nc1) (ns1 := ns1) hR' h4 hi hk ha (fGvP_ne (S := wV S (fGoM S i (1160 + 8 * i + k) a m (fWetM S i m) dr)) ha hb2) hnc hQ
theorem fBgM_k {A : Nat → Nat → Nat} {i r key : Nat} {m : Int32} (h1 : key ≠ 609) (h2 : key ≠ 610) : fBgM S A i m r key = sV S r key := by
  unfold fBgM
  split
  · rw [u2_k h2, u2_k h1]
  · rfl
/-- all pitches: who is due begins -/
def fB1 (S : zSt) (A : Nat → Nat → Nat) (m k : Nat) : zSt := zit (fun k T => wV T (fBgM T A k (nI m))) k S
theorem fB1_c {A : Nat → Nat → Nat} {m : Nat} : ∀ k, sc (fB1 S A m k) = sc S
  | 0 => rfl
  | k + 1 => fB1_c k
theorem fB1_P {A : Nat → Nat → Nat} {m : Nat} : ∀ k, sP (fB1 S A m k) = sP S
  | 0 => rfl
  | k + 1 => fB1_P k
theorem fB1_k {A : Nat → Nat → Nat} {m r key : Nat} (h1 : key ≠ 609) (h2 : key ≠ 610) : ∀ k, sV (fB1 S A m k) r key = sV S r key
  | 0 => rfl
  | k + 1 => (fBgM_k h1 h2).trans (fB1_k h1 h2 k)
theorem k_rnd1 {q m : Nat} {A : Nat → Nat → Nat} (hR : zRp Z Λ S M) (h4 : sc S 4 = 1) (hA : zActs S A) (kk : ∀ M', zRp Z Λ (fB1 S A m (sc S 1000)) M' → zX Z l 6 mth_X16_play 86 [(0, .ref (Λ 1001)), (1, .ref q), (2, .int (nI m))] [] M' nc ns Q) : zX Z l 6 mth_X16_play 53 [(0, .ref (Λ 1001)), (1, .ref q), (2, .int (nI m)), (3, .int (nI 0))] [] M nc ns Q := by
  have hb6 : sc S 1000 ≤ 6 := hR.bnd.2.1.1
  have hb2 : sc S 1001 ≤ 8 := hR.bnd.2.1.2.1
  refine zloop (n := sc S 1000) (X := fun k => ∀ M, zRp Z Λ (fB1 S A m k) M → zX Z l 6 mth_X16_play 53 [(0, .ref (Λ 1001)), (1, .ref q), (2, .int (nI m)), (3, .int (nI k))] [] M nc ns Q) (fun k hk ih => ?_) ?_ 0 (Nat.zero_le _) M hR
  · intro M hR
    have h4a := h4
    have h4 : sc (fB1 S A m k) 4 = 1 := by rw [fB1_c]; exact h4a
    have hcP : sc (fB1 S A m k) 1000 = sc S 1000 := by rw [fB1_c]
    have hkx : k ≤ sc S 1000 := by omega
    have hA9 : zActs (fB1 S A m k) A := hA.to (fB1_c k) (fun r => fB1_k (by decide) (by decide) k)
    refine zs_iload_n (n := 54) dX16_play_53 rfl rfl ?_
    refine zs_aload_n (n := 55) dX16_play_54 rfl rfl ?_
    refine zs_getr (b := (Λ 1015)) (n := 58) dX16_play_55 gf_X16_10 (hR.kd (lvM h4 (by omega))) (hR.pt (lvM h4 (by omega)) rfl (by decide)) rfl ?_
    refine zc_size (c := sc (fB1 S A m k) 1000) (n := 61) dX16_play_58 ml_X16_46 (hR.lP' h4) (by simp) (by omega) rfl ?_
    rw [hcP]
    refine zs_icmp_ge (tgt := 86) (n := 64) dX16_play_61 (by decide) rfl (fun h => absurd h (nI_ge hk (by omega))) (fun _ => ?_)
    refine zs_aload_n (n := 65) dX16_play_64 rfl rfl ?_
    refine zs_aload_n (n := 66) dX16_play_65 rfl rfl ?_
    refine zs_getr (b := (Λ 1015)) (n := 69) dX16_play_66 gf_X16_10 (hR.kd (lvM h4 (by omega))) (hR.pt (lvM h4 (by omega)) rfl (by decide)) rfl ?_
    refine zs_iload_n (n := 70) dX16_play_69 rfl rfl ?_
    have hk9 : k < sc (fB1 S A m k) 1000 := by rw [fB1_c]; exact hk
    refine zc_getb (c := sc (fB1 S A m k) 1000) (b := (Λ (1100 + k))) (n := 73) dX16_play_70 ml_X16_94 (hR.lP' h4) hk9 rfl (by simp) (by omega) rfl ?_
    refine zs_castS (ci := 18) (n := 76) dX16_play_73 rfl cl_X16_68 (hR.kP' hk9) rfl ?_
    refine zs_iload_n (n := 77) dX16_play_76 rfl rfl ?_
    refine zg_V (n := 80) (As := [.ref (Λ (1100 + k)), .int (nI m)]) (ci := 21) (mc := 0) (ms := 0) dX16_play_77 ok_X16_begins ⟨ml_X16_293, im_X16_begins, sl_X16_begins⟩ rfl (hR.kd (lvM h4 (by omega))) rfl (Nat.le_of_ble_eq_true rfl) (by simp) (by omega) (Nat.le_refl _) (Nat.le_refl _) rfl rfl (k_begins hR h4 hk9 hA9) ?_
    intro M hR
    refine zs_iinc (v := (nI (k + 1))) (n := 83) dX16_play_80 rfl (nI_1 _) (by decide) rfl ?_
    refine zs_goto (tgt := 53) dX16_play_83 (by decide) ?_
    refine zX.sub (L' := [(0, .ref (Λ 1001)), (1, .ref q), (2, .int (nI m)), (3, .int (nI (k + 1)))]) ⟨rfl, rfl, rfl, rfl, trivial⟩ ?_
    exact ih M hR
  · intro M hR
    have h4a := h4
    have h4 : sc (fB1 S A m (sc S 1000)) 4 = 1 := by rw [fB1_c]; exact h4a
    have hcP : sc (fB1 S A m (sc S 1000)) 1000 = sc S 1000 := by rw [fB1_c]
    have hkx : (sc S 1000) ≤ sc S 1000 := by omega
    have hA9 : zActs (fB1 S A m (sc S 1000)) A := hA.to (fB1_c (sc S 1000)) (fun r => fB1_k (by decide) (by decide) (sc S 1000))
    refine zs_iload_n (n := 54) dX16_play_53 rfl rfl ?_
    refine zs_aload_n (n := 55) dX16_play_54 rfl rfl ?_
    refine zs_getr (b := (Λ 1015)) (n := 58) dX16_play_55 gf_X16_10 (hR.kd (lvM h4 (by omega))) (hR.pt (lvM h4 (by omega)) rfl (by decide)) rfl ?_
    refine zc_size (c := sc (fB1 S A m (sc S 1000)) 1000) (n := 61) dX16_play_58 ml_X16_46 (hR.lP' h4) (by simp) (by omega) rfl ?_
    rw [hcP]
    refine zs_icmp_ge (tgt := 86) (n := 64) dX16_play_61 (by decide) rfl (fun _ => ?_) (fun h => absurd (nI_le (Nat.le_refl _) (by omega)) h)
    refine zX.sub (L' := [(0, .ref (Λ 1001)), (1, .ref q), (2, .int (nI m))]) ⟨rfl, rfl, rfl, trivial⟩ ?_
    exact kk M hR
def fDrk (S : zSt) (A : Nat → Nat → Nat) (m k : Nat) : Bool := decide (fAtM S k (nI m) < sc S (1010 + k)) && fDrM S A k (A k (fAtM S k (nI m))) (nI m) (sc S 1000)
def fDP (S : zSt) (A : Nat → Nat → Nat) (m x : Nat) : Nat → Nat := zit (fun k P => u1 P (1003 + k) (if fDrk S A m k = true then 1 else 0)) x (sP S)
theorem fDP_lo {A : Nat → Nat → Nat} {m j : Nat} (hj : j < 1003 ∨ 1009 ≤ j) : ∀ x, x ≤ 6 → fDP S A m x j = sP S j
  | 0, _ => rfl
  | x + 1, h => (u1_ne (by omega)).trans (fDP_lo hj x (by omega))
theorem fDP_at {A : Nat → Nat → Nat} {m k : Nat} : ∀ x, k < x → fDP S A m x (1003 + k) = if fDrk S A m k = true then 1 else 0
  | x + 1, h => by
    by_cases e : k = x
    · subst e
      exact u1_at
    · exact (u1_ne (by omega)).trans (fDP_at x (by omega))
theorem k_rnd2 {q m : Nat} {A : Nat → Nat → Nat} (hR : zRp Z Λ S M) (h4 : sc S 4 = 1) (hA : zActs S A) (h9 : sP S 1010 = 1) (hq : sP S 1002 = q) (kk : ∀ M', zRp Z Λ (sc S, sV S, sW S, sT S, fDP S A m (sc S 1000)) M' → zX Z l 6 mth_X16_play 174 [(0, .ref (Λ 1001)), (1, .ref q), (2, .int (nI m))] [] M' nc ns Q) : zX Z l 6 mth_X16_play 93 [(0, .ref (Λ 1001)), (1, .ref q), (2, .int (nI m)), (3, .int (nI 0))] [] M nc ns Q := by
  have hb6 : sc S 1000 ≤ 6 := hR.bnd.2.1.1
  have hb2 : sc S 1001 ≤ 8 := hR.bnd.2.1.2.1
  refine zloop (n := sc S 1000) (X := fun k => ∀ M, zRp Z Λ (sc S, sV S, sW S, sT S, fDP S A m k) M → zX Z l 6 mth_X16_play 93 [(0, .ref (Λ 1001)), (1, .ref q), (2, .int (nI m)), (3, .int (nI k))] [] M nc ns Q) (fun k hk ih => ?_) ?_ 0 (Nat.zero_le _) M hR
  · intro M hR
    have hkx : k ≤ sc S 1000 := by omega
    have hcP : sc (sc S, sV S, sW S, sT S, fDP S A m k) 1000 = sc S 1000 := rfl
    have h4 : sc (sc S, sV S, sW S, sT S, fDP S A m k) 4 = 1 := h4
    have hA : zActs (sc S, sV S, sW S, sT S, fDP S A m k) A := hA
    have h9k : sP (sc S, sV S, sW S, sT S, fDP S A m k) 1010 = 1 := (fDP_lo (Or.inr (by decide)) k (by omega)).trans h9
    have hqk : sP (sc S, sV S, sW S, sT S, fDP S A m k) 1002 = q := (fDP_lo (Or.inl (by decide)) k (by omega)).trans hq
    refine zs_iload_n (n := 94) dX16_play_93 rfl rfl ?_
    refine zs_aload_n (n := 95) dX16_play_94 rfl rfl ?_
    refine zs_getr (b := (Λ 1015)) (n := 98) dX16_play_95 gf_X16_10 (hR.kd (lvM h4 (by omega))) (hR.pt (lvM h4 (by omega)) rfl (by decide)) rfl ?_
    refine zc_size (c := sc (sc S, sV S, sW S, sT S, fDP S A m k) 1000) (n := 101) dX16_play_98 ml_X16_46 (hR.lP' h4) (by simp) (by omega) rfl ?_
    rw [hcP]
    refine zs_icmp_ge (tgt := 174) (n := 104) dX16_play_101 (by decide) rfl (fun h => absurd h (nI_ge hk (by omega))) (fun _ => ?_)
    refine zs_aload_n (n := 105) dX16_play_104 rfl rfl ?_
    refine zs_getr (b := (Λ 1015)) (n := 108) dX16_play_105 gf_X16_10 (hR.kd (lvM h4 (by omega))) (hR.pt (lvM h4 (by omega)) rfl (by decide)) rfl ?_
    refine zs_iload_n (n := 109) dX16_play_108 rfl rfl ?_
    refine zc_getb (c := sc (sc S, sV S, sW S, sT S, fDP S A m k) 1000) (b := (Λ (1100 + k))) (n := 112) dX16_play_109 ml_X16_94 (hR.lP' h4) hk rfl (by simp) (by omega) rfl ?_
    refine zs_castS (ci := 18) (n := 115) dX16_play_112 rfl cl_X16_68 (hR.kP' hk) rfl ?_
    refine zs_iload_n (n := 116) dX16_play_115 rfl rfl ?_
    by_cases hat116 : fAtM (sc S, sV S, sW S, sT S, fDP S A m k) k (nI m) < sc (sc S, sV S, sW S, sT S, fDP S A m k) (1010 + k)
    · refine zc_V (n := 119) (As := [.int (nI m)]) (ci := 18) (mc := 0) (ms := 0) (d' := 3) dX16_play_116 ok_X13_at ⟨ml_X16_226, im_X13_at, sl_X13_at⟩ rfl (hR.kP' hk) rfl (Nat.le_of_ble_eq_true rfl) (by simp) (by omega) (Nat.le_refl _) (Nat.le_refl _) rfl rfl (k_at hR h4 hk rfl hat116) ?_
      refine zs_astore (n := 121) dX16_play_119 (by decide) rfl ?_
      refine zs_aload_n (n := 122) dX16_play_121 rfl rfl ?_
      refine zs_iload_n (n := 123) dX16_play_122 rfl rfl ?_
      refine zs_aload (n := 125) dX16_play_123 rfl rfl ?_
      refine zs_ifnull (n := 128) dX16_play_125 rfl ?_
      refine zs_aload_n (n := 129) dX16_play_128 rfl rfl ?_
      refine zs_aload_n (n := 130) dX16_play_129 rfl rfl ?_
      refine zs_getr (b := (Λ 1015)) (n := 133) dX16_play_130 gf_X16_10 (hR.kd (lvM h4 (by omega))) (hR.pt (lvM h4 (by omega)) rfl (by decide)) rfl ?_
      refine zs_iload_n (n := 134) dX16_play_133 rfl rfl ?_
      refine zc_getb (c := sc (sc S, sV S, sW S, sT S, fDP S A m k) 1000) (b := (Λ (1100 + k))) (n := 137) dX16_play_134 ml_X16_94 (hR.lP' h4) hk rfl (by simp) (by omega) rfl ?_
      refine zs_castS (ci := 18) (n := 140) dX16_play_137 rfl cl_X16_68 (hR.kP' hk) rfl ?_
      refine zs_aload_n (n := 141) dX16_play_140 rfl rfl ?_
      refine zs_getr (b := (Λ 1017)) (n := 144) dX16_play_141 gf_X16_16 (hR.kd (lvM h4 (by omega))) (hR.pt (lvM h4 (by omega)) rfl (by decide)) rfl ?_
      refine zs_aload (n := 146) dX16_play_144 rfl rfl ?_
      refine zs_getv (x := (sV (sc S, sV S, sW S, sT S, fDP S A m k) (1160 + 8 * k + (fAtM (sc S, sV S, sW S, sT S, fDP S A m k) k (nI m))) 608)) (n := 149) dX16_play_146 gf_X16_169 (hR.kK' hk hat116) (hR.iv (lvK' hk hat116) (by decide) (by decide)) rfl ?_
      rw [(hA k _ hk hat116).1]
      have hat116a := (hA k _ hk hat116).2
      refine zc_getb (c := sc (sc S, sV S, sW S, sT S, fDP S A m k) 1001) (b := (Λ (1140 + (A k (fAtM (sc S, sV S, sW S, sT S, fDP S A m k) k (nI m)))))) (n := 152) dX16_play_149 ml_X16_94 (hR.lA' h4) hat116a rfl (by simp) (by omega) rfl ?_
      refine zs_castS (ci := 17) (n := 155) dX16_play_152 rfl cl_X16_111 (hR.kA' hat116a) rfl ?_
      refine zs_iload_n (n := 156) dX16_play_155 rfl rfl ?_
      refine zc_V (n := 159) (As := [.ref (Λ (1100 + k)), .ref (Λ (1140 + (A k (fAtM (sc S, sV S, sW S, sT S, fDP S A m k) k (nI m))))), .int (nI m)]) (ci := 21) (mc := 0) (ms := 0) dX16_play_156 ok_X16_isDrowned ⟨ml_X16_299, im_X16_isDrowned, sl_X16_isDrowned⟩ rfl (hR.kd (lvM h4 (by omega))) rfl (Nat.le_of_ble_eq_true rfl) (by simp) (by omega) (Nat.le_refl _) (Nat.le_refl _) rfl rfl (k_isDrowned hR h4 hk hat116a hA) ?_
      refine zs_if_eq (tgt := 166) (n := 162) dX16_play_159 (by decide) rfl (fun h159 => ?_) (fun h159 => ?_)
      · refine zs_iconst (v := 0) (n := 167) dX16_play_166 (by decide) rfl ?_
        have hd9 : fDrk S A m k = false := by
          unfold fDrk
          first
          | exact (congrArg (fun b => b && _) (decide_eq_false hat116)).trans (Bool.false_and _)
          | exact (congrArg (fun b => _ && b) (zb0.mp h159)).trans (Bool.and_false _)
        rw [show (Value.int 0) = Value.int (zb (fDrk S A m k)) from by rw [hd9]; rfl]
        refine zb_st (S := (sc S, sV S, sW S, sT S, fDP S A m k)) (x := k) (n := 168) dX16_play_167 hR h9k hqk (by omega) rfl (fun M hR => ?_)
        refine zs_iinc (v := (nI (k + 1))) (n := 171) dX16_play_168 rfl (nI_1 _) (by decide) rfl ?_
        refine zs_goto (tgt := 93) dX16_play_171 (by decide) ?_
        refine zX.sub (L' := [(0, .ref (Λ 1001)), (1, .ref q), (2, .int (nI m)), (3, .int (nI (k + 1)))]) ⟨rfl, rfl, rfl, rfl, trivial⟩ ?_
        exact ih M hR
      · refine zs_iconst (v := 1) (n := 163) dX16_play_162 (by decide) rfl ?_
        refine zs_goto (tgt := 167) dX16_play_163 (by decide) ?_
        have hd9 : fDrk S A m k = true := by
          unfold fDrk
          rw [decide_eq_true (p := fAtM S k (nI m) < sc S (1010 + k)) hat116, Bool.true_and]
          exact zb1.mp h159
        rw [show (Value.int 1) = Value.int (zb (fDrk S A m k)) from by rw [hd9]; rfl]
        refine zb_st (S := (sc S, sV S, sW S, sT S, fDP S A m k)) (x := k) (n := 168) dX16_play_167 hR h9k hqk (by omega) rfl (fun M hR => ?_)
        refine zs_iinc (v := (nI (k + 1))) (n := 171) dX16_play_168 rfl (nI_1 _) (by decide) rfl ?_
        refine zs_goto (tgt := 93) dX16_play_171 (by decide) ?_
        refine zX.sub (L' := [(0, .ref (Λ 1001)), (1, .ref q), (2, .int (nI m)), (3, .int (nI (k + 1)))]) ⟨rfl, rfl, rfl, rfl, trivial⟩ ?_
        exact ih M hR
    · refine zc_V (n := 119) (As := [.int (nI m)]) (ci := 18) (mc := 0) (ms := 0) (d' := 3) dX16_play_116 ok_X13_at ⟨ml_X16_226, im_X13_at, sl_X13_at⟩ rfl (hR.kP' hk) rfl (Nat.le_of_ble_eq_true rfl) (by simp) (by omega) (Nat.le_refl _) (Nat.le_refl _) rfl rfl (k_at_no hR h4 hk hat116) ?_
      refine zs_astoreN (n := 121) dX16_play_119 (by decide) rfl ?_
      refine zs_aload_n (n := 122) dX16_play_121 rfl rfl ?_
      refine zs_iload_n (n := 123) dX16_play_122 rfl rfl ?_
      refine zs_aloadN (n := 125) dX16_play_123 rfl rfl ?_
      refine zs_ifnullN (tgt := 166) dX16_play_125 (by decide) ?_
      refine zs_iconst (v := 0) (n := 167) dX16_play_166 (by decide) rfl ?_
      have hd9 : fDrk S A m k = false := by
        unfold fDrk
        first
        | exact (congrArg (fun b => b && _) (decide_eq_false hat116)).trans (Bool.false_and _)
        | exact (congrArg (fun b => _ && b) (zb0.mp h159)).trans (Bool.and_false _)
      rw [show (Value.int 0) = Value.int (zb (fDrk S A m k)) from by rw [hd9]; rfl]
      refine zb_st (S := (sc S, sV S, sW S, sT S, fDP S A m k)) (x := k) (n := 168) dX16_play_167 hR h9k hqk (by omega) rfl (fun M hR => ?_)
      refine zs_iinc (v := (nI (k + 1))) (n := 171) dX16_play_168 rfl (nI_1 _) (by decide) rfl ?_
      refine zs_goto (tgt := 93) dX16_play_171 (by decide) ?_
      refine zX.sub (L' := [(0, .ref (Λ 1001)), (1, .ref q), (2, .int (nI m)), (3, .int (nI (k + 1)))]) ⟨rfl, rfl, rfl, rfl, trivial⟩ ?_
      exact ih M hR
  · intro M hR
    have hkx : (sc S 1000) ≤ sc S 1000 := by omega
    have hcP : sc (sc S, sV S, sW S, sT S, fDP S A m (sc S 1000)) 1000 = sc S 1000 := rfl
    have h4 : sc (sc S, sV S, sW S, sT S, fDP S A m (sc S 1000)) 4 = 1 := h4
    have hA : zActs (sc S, sV S, sW S, sT S, fDP S A m (sc S 1000)) A := hA
    have h9k : sP (sc S, sV S, sW S, sT S, fDP S A m (sc S 1000)) 1010 = 1 := (fDP_lo (Or.inr (by decide)) (sc S 1000) (by omega)).trans h9
    have hqk : sP (sc S, sV S, sW S, sT S, fDP S A m (sc S 1000)) 1002 = q := (fDP_lo (Or.inl (by decide)) (sc S 1000) (by omega)).trans hq
    refine zs_iload_n (n := 94) dX16_play_93 rfl rfl ?_
    refine zs_aload_n (n := 95) dX16_play_94 rfl rfl ?_
    refine zs_getr (b := (Λ 1015)) (n := 98) dX16_play_95 gf_X16_10 (hR.kd (lvM h4 (by omega))) (hR.pt (lvM h4 (by omega)) rfl (by decide)) rfl ?_
    refine zc_size (c := sc (sc S, sV S, sW S, sT S, fDP S A m (sc S 1000)) 1000) (n := 101) dX16_play_98 ml_X16_46 (hR.lP' h4) (by simp) (by omega) rfl ?_
    rw [hcP]
    refine zs_icmp_ge (tgt := 174) (n := 104) dX16_play_101 (by decide) rfl (fun _ => ?_) (fun h => absurd (nI_le (Nat.le_refl _) (by omega)) h)
    refine zX.sub (L' := [(0, .ref (Λ 1001)), (1, .ref q), (2, .int (nI m))]) ⟨rfl, rfl, rfl, trivial⟩ ?_
    exact kk M hR
/-- all pitches: who is at it goes on; D tells who is drowned -/
def fG3 (S : zSt) (A : Nat → Nat → Nat) (D : Nat → Bool) (m k : Nat) : zSt := zit (fun k T => if fAtM T k (nI m) < sc T (1010 + k) then wV T (fGoes T k (1160 + 8 * k + fAtM T k (nI m)) (A k (fAtM T k (nI m))) m (D k)) else T) k S
theorem fG3_s {A : Nat → Nat → Nat} {D : Nat → Bool} {m : Nat} : ∀ k, sc (fG3 S A D m k) = sc S ∧ sP (fG3 S A D m k) = sP S
  | 0 => ⟨rfl, rfl⟩
  | k + 1 => by
    obtain ⟨h1, h2⟩ := fG3_s (A := A) (D := D) (m := m) k
    have e : fG3 S A D m (k + 1) = if fAtM (fG3 S A D m k) k (nI m) < sc (fG3 S A D m k) (1010 + k) then wV (fG3 S A D m k) (fGoes (fG3 S A D m k) k (1160 + 8 * k + fAtM (fG3 S A D m k) k (nI m)) (A k (fAtM (fG3 S A D m k) k (nI m))) m (D k)) else fG3 S A D m k := rfl
    rw [e]
    split
    · exact ⟨h1, h2⟩
    · exact ⟨h1, h2⟩
theorem fGv_k {t a r key : Nat} {tg : Int32} (h1 : key ≠ 613) (h2 : key ≠ 688) (h3 : key ≠ 550) : fGv S t a tg r key = sV S r key := by
  unfold fGv
  rw [u2_k h3]
  show fGm _ _ _ (sV (fGv0 S t tg)) r key = _
  rw [fGm_k h3]
  show u2 (u2 (sV S) t 613 tg) 1001 688 (sV S 1001 688 + tg) r key = _
  rw [u2_k h2, u2_k h1]
theorem fGoes_608 {i t a m r : Nat} {dr : Bool} : fGoes S i t a m dr r 608 = sV S r 608 := by
  have e : sV (wV S (fGoM S i t a m (fWetM S i m) dr)) r 608 = sV S r 608 := by
    show fGoM S i t a m (fWetM S i m) dr r 608 = _
    unfold fGoM
    rw [u2_k (by decide), u2_k (by decide), u2_k (by decide)]
  unfold fGoes fEndM
  split
  · rw [u2_k (by decide), u2_k (by decide)]
    exact e
  · split
    · rw [fGv_k (by decide) (by decide) (by decide)]
      exact e
    · exact e
theorem fG3_608 {A : Nat → Nat → Nat} {D : Nat → Bool} {m r : Nat} : ∀ k, sV (fG3 S A D m k) r 608 = sV S r 608
  | 0 => rfl
  | k + 1 => by
    have h := fG3_608 (A := A) (D := D) (m := m) (r := r) k
    have e : fG3 S A D m (k + 1) = if fAtM (fG3 S A D m k) k (nI m) < sc (fG3 S A D m k) (1010 + k) then wV (fG3 S A D m k) (fGoes (fG3 S A D m k) k (1160 + 8 * k + fAtM (fG3 S A D m k) k (nI m)) (A k (fAtM (fG3 S A D m k) k (nI m))) m (D k)) else fG3 S A D m k := rfl
    rw [e]
    split
    · exact fGoes_608.trans h
    · exact h
theorem k_rnd3 {q m : Nat} {A : Nat → Nat → Nat} (hR : zRp Z Λ S M) (h4 : sc S 4 = 1) (hA : zActs S A) {D : Nat → Bool} {C : Nat → Nat} {nc0 ns0 : Nat} (h9 : sP S 1010 = 1) (hq : sP S 1002 = q) (h6 : 600 ≤ m) (h12 : m < 1200) (hD : ∀ k, k < sc S 1000 → sP S (1003 + k) = if D k = true then 1 else 0) (hC : ∀ k, k < sc S 1000 → C (k + 1) ≤ C k ∧ (fAtM (fG3 S A D m k) k (nI m) < sc (fG3 S A D m k) (1010 + k) → fGivM (wV (fG3 S A D m k) (fGoM (fG3 S A D m k) k (1160 + 8 * k + (fAtM (fG3 S A D m k) k (nI m))) (A k (fAtM (fG3 S A D m k) k (nI m))) m (fWetM (fG3 S A D m k) k m) (D k))) (1160 + 8 * k + (fAtM (fG3 S A D m k) k (nI m))) m → C (k + 1) + 1 ≤ C k)) (kk : ∀ M', zRp Z Λ (fG3 S A D m (sc S 1000)) M' → zX Z l 6 mth_X16_play 236 [(0, .ref (Λ 1001)), (1, .ref q), (2, .int (nI m))] [] M' (nc0 + 3 * C (sc S 1000)) (ns0 + 12 * C (sc S 1000)) Q) : zX Z l 6 mth_X16_play 176 [(0, .ref (Λ 1001)), (1, .ref q), (2, .int (nI m)), (3, .int (nI 0))] [] M (nc0 + 3 * C 0) (ns0 + 12 * C 0) Q := by
  have hb6 : sc S 1000 ≤ 6 := hR.bnd.2.1.1
  have hb2 : sc S 1001 ≤ 8 := hR.bnd.2.1.2.1
  refine zloop (n := sc S 1000) (X := fun k => ∀ M, zRp Z Λ (fG3 S A D m k) M → zX Z l 6 mth_X16_play 176 [(0, .ref (Λ 1001)), (1, .ref q), (2, .int (nI m)), (3, .int (nI k))] [] M (nc0 + 3 * C k) (ns0 + 12 * C k) Q) (fun k hk ih => ?_) ?_ 0 (Nat.zero_le _) M hR
  · intro M hR
    have hkx : k ≤ sc S 1000 := by omega
    have h4a := h4
    have h4 : sc (fG3 S A D m k) 4 = 1 := by rw [(fG3_s k).1]; exact h4a
    have hcP : sc (fG3 S A D m k) 1000 = sc S 1000 := by rw [(fG3_s k).1]
    have hA9 : zActs (fG3 S A D m k) A := hA.to (fG3_s k).1 (fun r => fG3_608 k)
    have h9k : sP (fG3 S A D m k) 1010 = 1 := by rw [(fG3_s k).2]; exact h9
    have hqk : sP (fG3 S A D m k) 1002 = q := by rw [(fG3_s k).2]; exact hq
    refine zs_iload_n (n := 177) dX16_play_176 rfl rfl ?_
    refine zs_aload_n (n := 178) dX16_play_177 rfl rfl ?_
    refine zs_getr (b := (Λ 1015)) (n := 181) dX16_play_178 gf_X16_10 (hR.kd (lvM h4 (by omega))) (hR.pt (lvM h4 (by omega)) rfl (by decide)) rfl ?_
    refine zc_size (c := sc (fG3 S A D m k) 1000) (n := 184) dX16_play_181 ml_X16_46 (hR.lP' h4) (by simp) (by omega) rfl ?_
    rw [hcP]
    refine zs_icmp_ge (tgt := 236) (n := 187) dX16_play_184 (by decide) rfl (fun h => absurd h (nI_ge hk (by omega))) (fun _ => ?_)
    have hk9 : k < sc (fG3 S A D m k) 1000 := by rw [(fG3_s k).1]; exact hk
    refine zs_aload_n (n := 188) dX16_play_187 rfl rfl ?_
    refine zs_getr (b := (Λ 1015)) (n := 191) dX16_play_188 gf_X16_10 (hR.kd (lvM h4 (by omega))) (hR.pt (lvM h4 (by omega)) rfl (by decide)) rfl ?_
    refine zs_iload_n (n := 192) dX16_play_191 rfl rfl ?_
    refine zc_getb (c := sc (fG3 S A D m k) 1000) (b := (Λ (1100 + k))) (n := 195) dX16_play_192 ml_X16_94 (hR.lP' h4) hk9 rfl (by simp) (by omega) rfl ?_
    refine zs_castS (ci := 18) (n := 198) dX16_play_195 rfl cl_X16_68 (hR.kP' hk9) rfl ?_
    refine zs_iload_n (n := 199) dX16_play_198 rfl rfl ?_
    by_cases hat199 : fAtM (fG3 S A D m k) k (nI m) < sc (fG3 S A D m k) (1010 + k)
    · refine zc_V (n := 202) (As := [.int (nI m)]) (ci := 18) (mc := 0) (ms := 0) (d' := 3) (nc1 := (nc0 + 3 * C k)) (ns1 := (ns0 + 12 * C k)) dX16_play_199 ok_X13_at ⟨ml_X16_226, im_X13_at, sl_X13_at⟩ rfl (hR.kP' hk9) rfl (Nat.le_of_ble_eq_true rfl) (by simp) (by omega) (Nat.le_refl _) (Nat.le_refl _) rfl rfl (k_at hR h4 hk9 rfl hat199) ?_
      have hk9b := hk9
      refine zs_astore (n := 204) dX16_play_202 (by decide) rfl ?_
      refine zs_aload (n := 206) dX16_play_204 rfl rfl ?_
      refine zs_ifnull (n := 209) dX16_play_206 rfl ?_
      refine zs_aload_n (n := 210) dX16_play_209 rfl rfl ?_
      refine zs_aload_n (n := 211) dX16_play_210 rfl rfl ?_
      refine zs_getr (b := (Λ 1015)) (n := 214) dX16_play_211 gf_X16_10 (hR.kd (lvM h4 (by omega))) (hR.pt (lvM h4 (by omega)) rfl (by decide)) rfl ?_
      refine zs_iload_n (n := 215) dX16_play_214 rfl rfl ?_
      refine zc_getb (c := sc (fG3 S A D m k) 1000) (b := (Λ (1100 + k))) (n := 218) dX16_play_215 ml_X16_94 (hR.lP' h4) hk9 rfl (by simp) (by omega) rfl ?_
      refine zs_castS (ci := 18) (n := 221) dX16_play_218 rfl cl_X16_68 (hR.kP' hk9) rfl ?_
      refine zs_aload (n := 223) dX16_play_221 rfl rfl ?_
      refine zs_aload_n (n := 224) dX16_play_223 rfl rfl ?_
      refine zs_iload_n (n := 225) dX16_play_224 rfl rfl ?_
      refine zb_ld (S := (fG3 S A D m k)) (x := k) (n := 226) dX16_play_225 hR h9k hqk (by omega) rfl ?_
      rw [show Int32.ofNat (sP (fG3 S A D m k) (1003 + k)) = zb (D k) from by rw [(fG3_s k).2, hD k hk]; cases D k <;> rfl]
      refine zs_iload_n (n := 227) dX16_play_226 rfl rfl ?_
      have hpk := hC k hk
      refine zs_invV (d' := 5) (ci := 21) (As := [.ref (Λ (1100 + k)), .ref (Λ (1160 + 8 * k + (fAtM (fG3 S A D m k) k (nI m)))), .int (zb (D k)), .int (nI m)]) (mc := 3 * (C k - C (k + 1))) (ms := 12 * (C k - C (k + 1))) (nc1 := nc0 + 3 * C (k + 1)) (ns1 := ns0 + 12 * C (k + 1)) (n := 230) (Post := fun o M1 => o = .inl none ∧ zRp Z Λ (wV (fG3 S A D m k) (fGoes (fG3 S A D m k) k (1160 + 8 * k + (fAtM (fG3 S A D m k) k (nI m))) (A k (fAtM (fG3 S A D m k) k (nI m))) m (D k))) M1) dX16_play_227 ok_X16_goesOn ⟨ml_X16_303, im_X16_goesOn, sl_X16_goesOn⟩ rfl (hR.kd (lvM h4 (by omega))) rfl (Nat.le_of_ble_eq_true rfl) (by simp) rfl (by omega) (by omega) rfl rfl ((k_goes (nc1 := 0) (ns1 := 0) hR h4 hk9 hat199 (hA9 k _ hk9 hat199).2 (hA9 k _ hk9 hat199).1 h6 h12 (D k) (fun hg => by have := hpk.2 hat199 hg; omega) (fun M' hR' => ⟨rfl, hR'⟩)).deep (by omega)) (fun k9 M1 h => nomatch h.1) (fun v M1 h => ?_)
      obtain ⟨h8, hR8⟩ := h
      cases h8
      have hR : zRp Z Λ (fG3 S A D m (k + 1)) M1 := by
        rw [show (fG3 S A D m (k + 1)) = wV (fG3 S A D m k) (fGoes (fG3 S A D m k) k (1160 + 8 * k + (fAtM (fG3 S A D m k) k (nI m))) (A k (fAtM (fG3 S A D m k) k (nI m))) m (D k)) from if_pos hat199]
        exact hR8
      refine zs_iinc (v := nI (k + 1)) (n := 233) dX16_play_230 rfl (nI_1 _) (by decide) rfl ?_
      refine zs_goto (tgt := 176) dX16_play_233 (by decide) ?_
      refine zX.sub (L' := [(0, .ref (Λ 1001)), (1, .ref q), (2, .int (nI m)), (3, .int (nI (k + 1)))]) ⟨rfl, rfl, rfl, rfl, trivial⟩ ?_
      exact ih M1 hR
    · refine zc_V (n := 202) (As := [.int (nI m)]) (ci := 18) (mc := 0) (ms := 0) (d' := 3) (nc1 := (nc0 + 3 * C k)) (ns1 := (ns0 + 12 * C k)) dX16_play_199 ok_X13_at ⟨ml_X16_226, im_X13_at, sl_X13_at⟩ rfl (hR.kP' hk9) rfl (Nat.le_of_ble_eq_true rfl) (by simp) (by omega) (Nat.le_refl _) (Nat.le_refl _) rfl rfl (k_at_no hR h4 hk9 hat199) ?_
      refine zs_astoreN (n := 204) dX16_play_202 (by decide) rfl ?_
      refine zs_aloadN (n := 206) dX16_play_204 rfl rfl ?_
      refine zs_ifnullN (tgt := 230) dX16_play_206 (by decide) ?_
      have hpk := hC k hk
      have hR : zRp Z Λ (fG3 S A D m (k + 1)) M := by
        rw [show (fG3 S A D m (k + 1)) = (fG3 S A D m k) from if_neg hat199]
        exact hR
      refine zs_iinc (v := nI (k + 1)) (n := 233) dX16_play_230 rfl (nI_1 _) (by decide) rfl ?_
      refine zs_goto (tgt := 176) dX16_play_233 (by decide) ?_
      refine zX.sub (L' := [(0, .ref (Λ 1001)), (1, .ref q), (2, .int (nI m)), (3, .int (nI (k + 1)))]) ⟨rfl, rfl, rfl, rfl, trivial⟩ ?_
      exact zX.more (ih M hR) (by omega) (by omega)
  · intro M hR
    have hkx : (sc S 1000) ≤ sc S 1000 := by omega
    have h4a := h4
    have h4 : sc (fG3 S A D m (sc S 1000)) 4 = 1 := by rw [(fG3_s (sc S 1000)).1]; exact h4a
    have hcP : sc (fG3 S A D m (sc S 1000)) 1000 = sc S 1000 := by rw [(fG3_s (sc S 1000)).1]
    have hA9 : zActs (fG3 S A D m (sc S 1000)) A := hA.to (fG3_s (sc S 1000)).1 (fun r => fG3_608 (sc S 1000))
    have h9k : sP (fG3 S A D m (sc S 1000)) 1010 = 1 := by rw [(fG3_s (sc S 1000)).2]; exact h9
    have hqk : sP (fG3 S A D m (sc S 1000)) 1002 = q := by rw [(fG3_s (sc S 1000)).2]; exact hq
    refine zs_iload_n (n := 177) dX16_play_176 rfl rfl ?_
    refine zs_aload_n (n := 178) dX16_play_177 rfl rfl ?_
    refine zs_getr (b := (Λ 1015)) (n := 181) dX16_play_178 gf_X16_10 (hR.kd (lvM h4 (by omega))) (hR.pt (lvM h4 (by omega)) rfl (by decide)) rfl ?_
    refine zc_size (c := sc (fG3 S A D m (sc S 1000)) 1000) (n := 184) dX16_play_181 ml_X16_46 (hR.lP' h4) (by simp) (by omega) rfl ?_
    rw [hcP]
    refine zs_icmp_ge (tgt := 236) (n := 187) dX16_play_184 (by decide) rfl (fun _ => ?_) (fun h => absurd (nI_le (Nat.le_refl _) (by omega)) h)
    refine zX.sub (L' := [(0, .ref (Λ 1001)), (1, .ref q), (2, .int (nI m))]) ⟨rfl, rfl, rfl, trivial⟩ ?_
    exact kk M hR
end ZMOD14
