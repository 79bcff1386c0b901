/-! PLAY: the class's day, minute by minute: the int fields V, what plays, what is next -/
section ZPLAY
variable {Z : zPar} {l : Launch} {Λ : Nat → Nat} {S : zSt} {M : zMem} {d : Nat} {mm : zMeth} {pc n nc ns ix : Nat} {L : List (Nat × Value)} {st : List Value} {Q : zO → zMem → Prop}
abbrev zVp : Type := (Nat → Nat → Int32) × (Nat → Option Nat) × (Nat → Nat)
def zRq (Z : zPar) (Λ : Nat → Nat) (S : zSt) (t : zVp) (M : zMem) : Prop := zRp Z Λ (wV S t.1) M ∧ zPl Λ (wV S t.1, t.2.1, t.2.2) M
theorem zopt {α : Type} (o : Option α) : o = none ∨ ∃ k, o = some k := by
  cases o with
  | none => exact Or.inl rfl
  | some k => exact Or.inr ⟨k, rfl⟩
theorem zw_pl0 {i : Nat} {pl : Nat → Option Nat} {nx : Nat → Nat} {v : Option Nat} (hR : zRp Z Λ S M) (hP : zPl Λ (S, pl, nx) M) (hi : i < sc S 0) (hk : ∀ k, v = some k → k < sc S (10 + i)) : zPl Λ (S, u1 pl i v, nx) (sR M (Λ (100 + i)) 359 (v.map (fun k => Λ (160 + 8 * i + k)))) := by
  refine ⟨?_, hP.2⟩
  intro j hj
  obtain ⟨⟨h1, h2⟩, h3⟩ := hP.1 j hj
  refine ⟨⟨?_, ?_⟩, h3⟩
  · show u2 (vR M) (Λ (100 + i)) 359 (v.map (fun k => Λ (160 + 8 * i + k))) (Λ (100 + j)) 359 = (u1 pl i v j).map (fun k => Λ (160 + 8 * j + k))
    unfold u2 u1
    by_cases e : j = i
    · subst e
      rw [if_pos ⟨rfl, rfl⟩, if_pos rfl]
    · rw [if_neg (fun q => hR.ne (lvP hj) (lvP hi) (by omega) q.2), if_neg e]
      exact h1
  · intro k hk1
    have hk2 : u1 pl i v j = some k := hk1
    unfold u1 at hk2
    by_cases e : j = i
    · subst e
      rw [if_pos rfl] at hk2
      exact hk k hk2
    · rw [if_neg e] at hk2
      exact h2 k hk2
theorem zw_plN {i : Nat} {pl : Nat → Option Nat} {nx : Nat → Nat} {fty : FieldType} (hd : decode (zMC mm) pc = .ok (.putfield ix, 3)) (hf : zPF mm ix 21 359 fty true) (hR : zRp Z Λ S M) (hP : zPl Λ (S, pl, nx) M) (hi : i < sc S 0) (hn : pc + 3 = n) (kk : ∀ M', zRp Z Λ S M' → zPl Λ (S, u1 pl i none, nx) M' → zX Z l d mm n L st M' nc ns Q) (hfit : narrow fty .null = .null ∧ fits fty .null = true := by exact ⟨rfl, rfl⟩) : zX Z l d mm pc L (.null :: .ref (Λ (100 + i)) :: st) M nc ns Q :=
  zs_putN hd hf (hR.kP hi) hfit hn (kk _ hR.s359 (zw_pl0 (v := none) hR hP hi (fun _ h => nomatch h)))
theorem zw_plS {i k : Nat} {pl : Nat → Option Nat} {nx : Nat → Nat} {fty : FieldType} (hd : decode (zMC mm) pc = .ok (.putfield ix, 3)) (hf : zPF mm ix 21 359 fty true) (hR : zRp Z Λ S M) (hP : zPl Λ (S, pl, nx) M) (hi : i < sc S 0) (hk : k < sc S (10 + i)) (hn : pc + 3 = n) (kk : ∀ M', zRp Z Λ S M' → zPl Λ (S, u1 pl i (some k), nx) M' → zX Z l d mm n L st M' nc ns Q) (hfit : ∀ b, narrow fty (.ref b) = .ref b ∧ fits fty (.ref b) = true := by exact fun _ => ⟨rfl, rfl⟩) : zX Z l d mm pc L (.ref (Λ (160 + 8 * i + k)) :: .ref (Λ (100 + i)) :: st) M nc ns Q :=
  zs_putr hd hf (hR.kP hi) (hfit _) hn (kk _ hR.s359 (zw_pl0 (v := some k) hR hP hi (fun k' h => by cases h; exact hk)))
theorem zw_nx {i x : Nat} {V : Nat → Nat → Int32} {pl : Nat → Option Nat} {nx : Nat → Nat} (hd : decode (zMC mm) pc = .ok (.putfield ix, 3)) (hf : zPF mm ix 21 357 .int false) (hR : zRp Z Λ (wV S V) M) (hP : zPl Λ (wV S V, pl, nx) M) (hi : i < sc S 0) (hx : x ≤ sc S (10 + i)) (hn : pc + 3 = n) (kk : ∀ M', zRp Z Λ (wV S (u2 V (100 + i) 357 (nI x))) M' → zPl Λ (wV S (u2 V (100 + i) 357 (nI x)), pl, u1 nx i x) M' → zX Z l d mm n L st M' nc ns Q) : zX Z l d mm pc L (.int (nI x) :: .ref (Λ (100 + i)) :: st) M nc ns Q := by
  refine zw_i hd hf hR (lvP hi) (hR.kP hi) ⟨rfl, rfl⟩ (by decide) hn (fun M' hR' hv => kk M' hR' ?_)
  refine ⟨?_, hP.2⟩
  intro j hj
  obtain ⟨h1, h2, h3⟩ := hP.1 j hj
  refine ⟨by rw [hv]; exact h1, ?_⟩
  show u2 V (100 + i) 357 (nI x) (100 + j) 357 = nI (u1 nx i x j) ∧ u1 nx i x j ≤ sc S (10 + j)
  unfold u2 u1
  by_cases e : j = i
  · subst e
    rw [if_pos ⟨rfl, rfl⟩, if_pos rfl]
    exact ⟨rfl, hx⟩
  · rw [if_neg (fun q => e (by omega)), if_neg e]
    exact ⟨h2, h3⟩
variable {V : Nat → Nat → Int32} {pl : Nat → Option Nat} {nx : Nat → Nat}
theorem zq_sI {r k : Nat} {v : Int32} (hR : zRp Z Λ (wV S V) M) (hP : zPl Λ (wV S V, pl, nx) M) (hl : zlv (sc S) r) (hk : k ≠ 128 ∧ k ≠ 130 ∧ k ≠ 32 ∧ k ≠ 357 ∧ k ≠ 450) : zRp Z Λ (wV S (u2 V r k v)) (sI M (Λ r) k v) ∧ zPl Λ (wV S (u2 V r k v), pl, nx) (sI M (Λ r) k v) :=
  ⟨hR.sI hl hk.1 hk.2.1 hk.2.2.1, hP.of rfl rfl rfl (fun i => u2_nk (Ne.symm hk.2.2.2.1)) (fun i => u2_nk (Ne.symm hk.2.2.2.2))⟩
-- the day opens
def fOD (j : Nat) (V : Nat → Nat → Int32) : Nat → Nat → Int32 := zit (fun i V => u2 (u2 V (100 + i) 357 0) (100 + i) 358 600) j V
def zOD (Z : zPar) (Λ : Nat → Nat) (S : zSt) (j : Nat) (M : zMem) : Prop := zRp Z Λ (wV S (fOD j (sV S))) M ∧ ∀ i, i < j → vR M (Λ (100 + i)) 359 = none ∧ fOD j (sV S) (100 + i) 357 = 0
theorem zOD.step {j : Nat} (h : zOD Z Λ S j M) (hj : j < sc S 0) : zOD Z Λ S (j + 1) (sR (sI (sI M (Λ (100 + j)) 357 0) (Λ (100 + j)) 358 600) (Λ (100 + j)) 359 none) := by
  have h2 := ((h.1.sI (k := 357) (v := 0) (lvP (S := wV S (fOD j (sV S))) hj) (by decide) (by decide) (by decide)).sI (k := 358) (v := 600) (lvP (S := wV S (fOD j (sV S))) hj) (by decide) (by decide) (by decide)).s359 (b := Λ (100 + j)) (v := none)
  refine ⟨h2, fun i hi => ?_⟩
  by_cases e : i = j
  · subst e
    exact ⟨(u2_at : u2 (vR M) (Λ (100 + i)) 359 none (Λ (100 + i)) 359 = none), (u2_at : u2 (fOD i (sV S)) (100 + i) 357 0 (100 + i) 357 = 0)⟩
  · obtain ⟨h3, h4⟩ := h.2 i (by omega)
    refine ⟨?_, ?_⟩
    · show u2 (vR M) (Λ (100 + j)) 359 none (Λ (100 + i)) 359 = none
      unfold u2
      split
      · rfl
      · exact h3
    · show u2 (fOD j (sV S)) (100 + j) 357 0 (100 + i) 357 = 0
      unfold u2
      split
      · rfl
      · exact h4
theorem fOD_450 {W : Nat → Nat → Int32} {r : Nat} : ∀ j, fOD j W r 450 = W r 450
  | 0 => rfl
  | j + 1 => fOD_450 (W := W) j
theorem zOD.end (h : zOD Z Λ S (sc S 0) M) (hC : ∀ j, j < sc S 2 → zCh (sV S (150 + j) 450)) : zRq Z Λ S (fOD (sc S 0) (sV S), fun _ => none, fun _ => 0) M := by
  refine ⟨h.1, fun i hi => ?_, fun j hj => cast (congrArg zCh (fOD_450 (W := sV S) (r := 150 + j) (sc S 0)).symm) (hC j hj)⟩
  obtain ⟨h1, h2⟩ := h.2 i hi
  exact ⟨⟨h1, fun k hk => nomatch hk⟩, h2, Nat.zero_le _⟩
theorem c_openDay  (hR : zRp Z Λ S M) (h3 : sc S 3 = 1) (hC : ∀ j, j < sc S 2 → zCh (sV S (150 + j) 450)) : zG Z l 3 mth_X7_openDay [.ref (Λ 2)] M 0 0 none (zRq Z Λ S (fOD (sc S 0) (sV S), fun _ => none, fun _ => 0)) := by
  intro Q hQ
  show zX Z l 3 mth_X7_openDay 0 [(0, .ref (Λ 2))] [] M 0 0 Q
  refine zs_iconst (v := 0) (n := 1) dX7_openDay_0 (by decide) rfl ?_
  refine zs_istore_n (n := 2) dX7_openDay_1 (by decide) rfl ?_
  refine zX.sub (L' := [(0, .ref (Λ 2)), (1, .int (nI 0))]) ⟨rfl, rfl, trivial⟩ ?_
  refine zloop (n := sc S 0) (X := fun j => ∀ M, zOD Z Λ S j M → zX Z l 3 mth_X7_openDay 2 [(0, .ref (Λ 2)), (1, .int (nI j))] [] M 0 0 Q) (fun j hj ih => ?_) ?_ 0 (Nat.zero_le _) M ?_
  · intro M hO
    have hR := hO.1
    have hb := hR.bnd.1.1
    refine zs_iload_n (n := 3) dX7_openDay_2 rfl rfl ?_
    refine zs_aload_n (n := 4) dX7_openDay_3 rfl rfl ?_
    refine zs_getr (b := (Λ 15)) (n := 7) dX7_openDay_4 gf_X7_10 (hR.kd (lvC h3 (by omega))) (hR.pt (lvC h3 (by omega)) rfl (by decide)) rfl ?_
    refine zc_size (c := sc (wV S (fOD j (sV S))) 0) (n := 10) dX7_openDay_7 ml_X7_19 (hR.lP h3) (by simp) (by omega) rfl ?_
    refine zs_icmp_ge (tgt := 33) (n := 13) dX7_openDay_10 (by decide) rfl (fun h => absurd h (nI_ge hj (by omega))) (fun _ => ?_)
    refine zs_aload_n (n := 14) dX7_openDay_13 rfl rfl ?_
    refine zs_getr (b := (Λ 15)) (n := 17) dX7_openDay_14 gf_X7_10 (hR.kd (lvC h3 (by omega))) (hR.pt (lvC h3 (by omega)) rfl (by decide)) rfl ?_
    refine zs_iload_n (n := 18) dX7_openDay_17 rfl rfl ?_
    refine zc_getb (c := sc (wV S (fOD j (sV S))) 0) (b := (Λ (100 + j))) (n := 21) dX7_openDay_18 ml_X7_23 (hR.lP h3) hj rfl (by simp) (by omega) rfl ?_
    refine zs_castS (ci := 11) (n := 24) dX7_openDay_21 rfl cl_X7_27 (hR.kP hj) rfl ?_
    refine zc_V (n := 27) (As := []) (ci := 11) (mc := 0) (ms := 0) dX7_openDay_24 ok_X6_openDay ⟨ml_X7_56, im_X6_openDay, sl_X6_openDay⟩ rfl (hR.kP hj) rfl (Nat.le_of_ble_eq_true rfl) (by simp) (by omega) (Nat.le_refl _) (Nat.le_refl _) rfl rfl (m_P_openDay (hR.kP hj)) ?_
    have hO := hO.step hj
    refine zs_iinc (v := (nI (j + 1))) (n := 30) dX7_openDay_27 rfl (nI_1 _) (by decide) rfl ?_
    refine zs_goto (tgt := 2) dX7_openDay_30 (by decide) ?_
    refine zX.sub (L' := [(0, .ref (Λ 2)), (1, .int (nI (j + 1)))]) ⟨rfl, rfl, trivial⟩ ?_
    exact ih _ hO
  · intro M hO
    have hR := hO.1
    have hb := hR.bnd.1.1
    refine zs_iload_n (n := 3) dX7_openDay_2 rfl rfl ?_
    refine zs_aload_n (n := 4) dX7_openDay_3 rfl rfl ?_
    refine zs_getr (b := (Λ 15)) (n := 7) dX7_openDay_4 gf_X7_10 (hR.kd (lvC h3 (by omega))) (hR.pt (lvC h3 (by omega)) rfl (by decide)) rfl ?_
    refine zc_size (c := sc (wV S (fOD (sc S 0) (sV S))) 0) (n := 10) dX7_openDay_7 ml_X7_19 (hR.lP h3) (by simp) (by omega) rfl ?_
    refine zs_icmp_ge (tgt := 33) (n := 13) dX7_openDay_10 (by decide) rfl (fun _ => ?_) (fun h => absurd (nI_le (Nat.le_refl _) (by omega)) h)
    refine zs_return dX7_openDay_33 rfl ?_
    exact hQ _ (hO.end hC)
  · exact ⟨hR, fun i hi => absurd hi (Nat.not_lt_zero i)⟩
theorem c_lastIf {i k : Nat} {x : Int32} (hR : zRp Z Λ (wV S V) M) (hi : i < sc S 0) (hk : k < sc S (10 + i)) : zD Z l 0 mth_X8_lastIfBegunAt [.ref (Λ (160 + 8 * i + k)), .int x] M 0 0 (some (.int (x + V (140 + sT S i k) 161 - 1))) M := by
  have h9 := m_lastIf (Z := Z) (l := l) (M := M) (x := x) (hR.kK hi hk) (hR.act hi hk) (hR.kA (hR.actb hi hk))
  rw [hR.iv (lvA (hR.actb hi hk)) (by decide) (by decide)] at h9
  exact h9
def gOpen (S : zSt) (i k : Nat) (x : Int32) (V : Nat → Nat → Int32) : Nat → Nat → Int32 := u2 (u2 (u2 V (160 + 8 * i + k) 417 x) (160 + 8 * i + k) 418 (x + V (140 + sT S i k) 161 - 1)) (160 + 8 * i + k) 423 1
theorem c_open {i k : Nat} {x : Int32} (hR : zRp Z Λ (wV S V) M) (hP : zPl Λ (wV S V, pl, nx) M) (hi : i < sc S 0) (hk : k < sc S (10 + i)) : zG Z l 1 mth_X8_open [.ref (Λ (160 + 8 * i + k)), .int x] M 0 0 none (zRq Z Λ S (gOpen S i k x V, pl, nx)) := by
  intro Q hQ
  refine m_open (hR.kK hi hk) (hR.act hi hk) (hR.kA (hR.actb hi hk)) Q (hQ _ ?_)
  rw [show vI M (Λ (140 + sT S i k)) 161 = V (140 + sT S i k) 161 from hR.iv (lvA (hR.actb hi hk)) (by decide) (by decide)]
  have hl : zlv (sc S) (160 + 8 * i + k) := lvK hi hk
  obtain ⟨a1, b1⟩ := zq_sI (k := 417) (v := x) hR hP hl (by decide)
  obtain ⟨a2, b2⟩ := zq_sI (k := 418) (v := x + V (140 + sT S i k) 161 - 1) a1 b1 hl (by decide)
  exact zq_sI (k := 423) (v := 1) a2 b2 hl (by decide)
def gMove (r : Nat) (x y : Int32) (V : Nat → Nat → Int32) : Nat → Nat → Int32 := u2 (u2 V r 419 (V r 419 + (x - y))) r 420 (if V r 420 < V r 419 + (x - y) then V r 419 + (x - y) else V r 420)
theorem c_move {i k : Nat} {x y : Int32} (hR : zRp Z Λ (wV S V) M) (hP : zPl Λ (wV S V, pl, nx) M) (hi : i < sc S 0) (hk : k < sc S (10 + i)) : zG Z l 0 mth_X8_move [.ref (Λ (160 + 8 * i + k)), .int x, .int y] M 0 0 none (zRq Z Λ S (gMove (160 + 8 * i + k) x y V, pl, nx)) := by
  intro Q hQ
  refine m_move (hR.kK hi hk) Q (hQ _ ?_)
  have hl : zlv (sc S) (160 + 8 * i + k) := lvK hi hk
  rw [show vI M (Λ (160 + 8 * i + k)) 419 = V (160 + 8 * i + k) 419 from hR.iv hl (by decide) (by decide), show vI M (Λ (160 + 8 * i + k)) 420 = V (160 + 8 * i + k) 420 from hR.iv hl (by decide) (by decide)]
  obtain ⟨a1, b1⟩ := zq_sI (k := 419) (v := V (160 + 8 * i + k) 419 + (x - y)) hR hP hl (by decide)
  exact zq_sI (k := 420) a1 b1 hl (by decide)
def gBreaks (r : Nat) (V : Nat → Nat → Int32) : Bool := decide (¬ V r 420 < 10) && decide (¬ (3 : Int32) ≤ V r 419)
theorem c_breaksNow {i k : Nat} (hR : zRp Z Λ (wV S V) M) (hi : i < sc S 0) (hk : k < sc S (10 + i)) : zD Z l 0 mth_X8_breaksNow [.ref (Λ (160 + 8 * i + k))] M 0 0 (some (.int (zb (gBreaks (160 + 8 * i + k) V)))) M := by
  have h9 := m_breaksNow (Z := Z) (l := l) (M := M) (hR.kK hi hk)
  rw [hR.iv (lvK hi hk) (by decide) (by decide), hR.iv (lvK hi hk) (by decide) (by decide)] at h9
  exact h9
theorem c_breakAt {i k : Nat} {x : Int32} (hR : zRp Z Λ (wV S V) M) (hP : zPl Λ (wV S V, pl, nx) M) (hi : i < sc S 0) (hk : k < sc S (10 + i)) : zG Z l 0 mth_X8_breakAt [.ref (Λ (160 + 8 * i + k)), .int x] M 0 0 none (zRq Z Λ S (u2 (u2 V (160 + 8 * i + k) 424 1) (160 + 8 * i + k) 418 x, pl, nx)) := by
  intro Q hQ
  refine m_breakAt (hR.kK hi hk) Q (hQ _ ?_)
  have hl : zlv (sc S) (160 + 8 * i + k) := lvK hi hk
  obtain ⟨a1, b1⟩ := zq_sI (k := 424) (v := 1) hR hP hl (by decide)
  exact zq_sI (k := 418) a1 b1 hl (by decide)
def gHat (r a : Nat) (wet : Int32) (V : Nat → Nat → Int32) : Int32 := if wet = 0 then (V r 419 - V r 419 * 3 * V a 165 / 100) * (V a 163 + V a 165) else (V r 419 - V r 419 * 3 * V a 165 / 100) * (V a 163 + V a 165) / 2
theorem c_passHat {i k : Nat} {w : Int32} (hR : zRp Z Λ (wV S V) M) (hP : zPl Λ (wV S V, pl, nx) M) (hi : i < sc S 0) (hk : k < sc S (10 + i)) : zG Z l 0 mth_X8_passHat [.ref (Λ (160 + 8 * i + k)), .int w] M 0 0 none (zRq Z Λ S (u2 V (160 + 8 * i + k) 421 (gHat (160 + 8 * i + k) (140 + sT S i k) w V), pl, nx)) := by
  intro Q hQ
  refine m_passHat (hR.kK hi hk) (hR.act hi hk) (hR.kA (hR.actb hi hk)) Q (hQ _ ?_)
  have hl : zlv (sc S) (160 + 8 * i + k) := lvK hi hk
  have hla : zlv (sc S) (140 + sT S i k) := lvA (hR.actb hi hk)
  rw [show fHat M (Λ (160 + 8 * i + k)) (Λ (140 + sT S i k)) w = gHat (160 + 8 * i + k) (140 + sT S i k) w V from by
    unfold fHat gHat
    rw [show vI M (Λ (160 + 8 * i + k)) 419 = V (160 + 8 * i + k) 419 from hR.iv hl (by decide) (by decide), show vI M (Λ (140 + sT S i k)) 165 = V (140 + sT S i k) 165 from hR.iv hla (by decide) (by decide), show vI M (Λ (140 + sT S i k)) 163 = V (140 + sT S i k) 163 from hR.iv hla (by decide) (by decide)]]
  exact zq_sI (k := 421) hR hP hl (by decide)
def gRain (V : Nat → Nat → Int32) (x : Int32) : Bool := decide (¬ x < V 5 480) && decide (¬ V 5 481 < x)
theorem c_isRaining {x : Int32} (hR : zRp Z Λ (wV S V) M) (h3 : sc S 3 = 1) : zD Z l 0 mth_X10_isRaining [.ref (Λ 5), .int x] M 0 0 (some (.int (zb (gRain V x)))) M := by
  have hl : zlv (sc S) 5 := lvC h3 (by omega)
  have h9 := m_isRaining (Z := Z) (l := l) (M := M) (x := x) (hR.kd hl)
  rw [hR.iv hl (by decide) (by decide), hR.iv hl (by decide) (by decide)] at h9
  exact h9
def gFire (a : Nat) (V : Nat → Nat → Int32) : Bool := decide (¬ V a 164 = 0) && decide (V a 166 = 0)
theorem c_isUnlawfulFire {a : Nat} (hR : zRp Z Λ (wV S V) M) (ha : a < sc S 1) : zD Z l 0 mth_X0_isUnlawfulFire [.ref (Λ (140 + a))] M 0 0 (some (.int (zb (gFire (140 + a) V)))) M := by
  have hl : zlv (sc S) (140 + a) := lvA ha
  have h9 := m_isUnlawfulFire (Z := Z) (l := l) (M := M) (hR.kA ha)
  rw [hR.iv hl (by decide) (by decide), hR.iv hl (by decide) (by decide)] at h9
  exact h9
def gYd (V : Nat → Nat → Int32) (i j : Nat) : Int32 := if 0 ≤ V (100 + i) 352 - V (100 + j) 352 then V (100 + i) 352 - V (100 + j) 352 else 0 - (V (100 + i) 352 - V (100 + j) 352)
theorem c_yardsTo {i j : Nat} (hR : zRp Z Λ (wV S V) M) (hi : i < sc S 0) (hj : j < sc S 0) : zD Z l 0 mth_X6_yardsTo [.ref (Λ (100 + i)), .ref (Λ (100 + j))] M 0 0 (some (.int (gYd V i j))) M := by
  have hl : zlv (sc S) (100 + i) := lvP hi
  have hl2 : zlv (sc S) (100 + j) := lvP hj
  have h9 := m_yardsTo (Z := Z) (l := l) (M := M) (hR.kP hi) (hR.kP hj)
  rw [show vI M (Λ (100 + i)) 352 = V (100 + i) 352 from hR.iv hl (by decide) (by decide), show vI M (Λ (100 + j)) 352 = V (100 + j) 352 from hR.iv hl2 (by decide) (by decide)] at h9
  exact h9
def gLoud (V : Nat → Nat → Int32) (i j a : Nat) : Int32 := 10 * V (140 + a) 162 + V (100 + i) 353 - gYd V i j
theorem c_loudnessAt {i j a : Nat} (hR : zRp Z Λ (wV S V) M) (hi : i < sc S 0) (hj : j < sc S 0) (ha : a < sc S 1) : zD Z l 1 mth_X6_loudnessAt [.ref (Λ (100 + i)), .ref (Λ (100 + j)), .ref (Λ (140 + a))] M 0 0 (some (.int (gLoud V i j a))) M := by
  have hl : zlv (sc S) (100 + i) := lvP hi
  have hl2 : zlv (sc S) (100 + j) := lvP hj
  have hl3 : zlv (sc S) (140 + a) := lvA ha
  have h9 := m_loudnessAt (Z := Z) (l := l) (M := M) (hR.kP hi) (hR.kP hj) (hR.kA ha)
  rw [show vI M (Λ (100 + i)) 352 = V (100 + i) 352 from hR.iv hl (by decide) (by decide), show vI M (Λ (100 + i)) 353 = V (100 + i) 353 from hR.iv hl (by decide) (by decide), show vI M (Λ (100 + j)) 352 = V (100 + j) 352 from hR.iv hl2 (by decide) (by decide), show vI M (Λ (140 + a)) 162 = V (140 + a) 162 from hR.iv hl3 (by decide) (by decide)] at h9
  exact h9
end ZPLAY
