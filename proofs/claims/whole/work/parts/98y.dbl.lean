/-! OPERATIONS 15: what is sound, shares, means -/
theorem n64_ok {r : UInt64} (h : Jvm.FP.Core.dIsNaN r = false) : vf_n64 r := by
  have h1 : ¬ 9218868437227405312 < r.toNat % 2 ^ 63 := fun q => by
    rw [(Jvm.FP.Core.isNaN_bits r).mpr q] at h
    cases h
  show r &&& 0x7fffffffffffffff ≤ 0x7ff0000000000000
  rw [UInt64.le_iff_toNat_le, UInt64.toNat_and]
  show r.toNat &&& (2 ^ 63 - 1) ≤ 9218868437227405312
  rw [Nat.and_two_pow_sub_one_eq_mod]
  omega
theorem n32_ok {r : UInt32} (h : Jvm.FP.Core.fIsNaN r = false) : vf_n32 r := by
  have h1 : ¬ 2139095040 < r.toNat % 2 ^ 31 := fun q => by
    rw [(Jvm.FP.Core.isNaN_bits32 r).mpr q] at h
    cases h
  show r &&& 0x7fffffff ≤ 0x7f800000
  rw [UInt32.le_iff_toNat_le, UInt32.toNat_and]
  show r.toNat &&& (2 ^ 31 - 1) ≤ 2139095040
  rw [Nat.and_two_pow_sub_one_eq_mod]
  omega
theorem ddiv_ok {a b : Int32} (h : b ≠ 0) : Jvm.FP.Core.dIsNaN (FP.ddiv (FP.i2d a) (FP.i2d b)) = false :=
  Jvm.FP.Core.ddiv_out (Jvm.FP.Core.i2d_fin a).notNaN (Jvm.FP.Core.i2d_fin b) (fun q => Jvm.FP.Core.i2d_ne_zero h ((Jvm.FP.Core.zero_bits2 _).mp q))
theorem fdiv_ok {a b : Int32} (h : b ≠ 0) : Jvm.FP.Core.fIsNaN (FP.fdiv (FP.i2f a) (FP.i2f b)) = false :=
  Jvm.FP.Core.fdiv_out (Jvm.FP.Core.i2f_fin a).notNaN (Jvm.FP.Core.i2f_fin b) (fun q => Jvm.FP.Core.i2f_ne_zero h ((Jvm.FP.Core.zero_bits232 _).mp q))
theorem f2d_ok {a : UInt32} (h : Jvm.FP.Core.fIsNaN a = false) : Jvm.FP.Core.dIsNaN (FP.f2d a) = false := by
  show Jvm.FP.Core.dIsNaN (if Jvm.FP.Core.fIsNaN a = true then _ else Jvm.FP.Core.f2d a) = false
  rw [h, if_neg (by decide)]
  exact Jvm.FP.Core.f2d_out h
theorem dcmp_ok {r : UInt64} (h : Jvm.FP.Core.dIsNaN r = false) (op : CmpOp) : Op.cmpValue (FP.dcmp r r) op = 0 := by
  have e : FP.dcmp r r = some .eq := Jvm.FP.Core.dcmp_self ((Jvm.FP.Core.notNaN_iff r).mp h)
  rw [e]
  rfl
section ZOP15
variable {Z : zPar} {l : Launch} {x m o od : Nat} {S : zSt}
theorem op_isSound (hS : rRel S) : zOp0 Z l x m o od mth_X11_isSound mth_X16_isSound S (fun v => v = .int 1) := by
  have h3 := hS.h3
  have h4 := hS.h4
  have b1 := hS.b1
  obtain ⟨⟨l1, l2, l3⟩, -, -, -, -, l7⟩ := hS.lo
  refine ⟨.int 1, S, mT S 0, rfl, cl_d (by omega) (by omega) (by omega) (fun Λ M hR => f_isSound hR h3 hS.so.1 (fun i hi => ?_) l1 l3 l7 hS.so.2), md_g (by omega) (by omega) (by omega) (fun Λ M hR => k_isSound hR h4), hS.mT 0⟩
  rw [b_dis]
  have hbef : ∀ n, n ≤ sc S 0 → ∀ a, a < 32 → bt (fBefore S n) a = true → ∃ j k, j < n ∧ k < sc S (10 + j) ∧ sT S j k = a := by
    intro n
    induction n with
    | zero =>
      intro _ a _ h
      have h : bt 0 a = true := h
      rw [b_0] at h
      cases h
    | succ n ih =>
      intro hn a ha h
      have h : bt (fBefore S n ||| fActs S n (sc S (10 + n))) a = true := h
      rw [b_or, Bool.or_eq_true] at h
      rcases h with h | h
      · obtain ⟨j, k, g1, g2, g3⟩ := ih (by omega) a ha h
        exact ⟨j, k, by omega, g2, g3⟩
      · obtain ⟨k, g1, g2⟩ := (acts_bt hS (by omega) ha _ (Nat.le_refl _)).mp h
        exact ⟨n, k, by omega, g1, g2⟩
  intro a ha h
  obtain ⟨j, k, g1, g2, g3⟩ := hbef i (by omega) a ha h
  rcases hb : bt (fActs S i (sc S (10 + i))) a with _ | _
  · rfl
  · obtain ⟨k', g4, g5⟩ := (acts_bt hS hi ha _ (Nat.le_refl _)).mp hb
    exact absurd (g3.trans g5.symm) (hS.on j i k k' (by omega) hi g2 g4 (by omega))
/-- through the wrapper, where a double is told -/
theorem wd_ok {mmW mmC : zMeth} {d mc ms : Nat} {v : Value} {z : UInt64} (hw : ∀ (M : zMem) (Q Post : zO → zMem → Prop) (mc ms : Nat), mK M x = 26 → zX Z l 9 mmC 0 (lv_args 0 [.ref x]) [] M mc ms Post → (∀ v' M', Post (.inl v') M' → v' = some v ∧ mK M' od = 6 ∧ mN M' od = 1 ∧ Q (.inl (some (.int 0))) (sAD M' od 0 z)) → (∀ k M', ¬ Post (.inr k) M') → zX Z l 10 mmW 0 (lv_args 0 [.ref x, .ref od]) [] M mc ms Q)
    (h3 : sc S 3 = 1) (h5 : sc S 5 = 1) (hd : d ≤ 9) (hc : mc ≤ 200) (hs : ms ≤ 1000) (hf : ∀ Λ M, zRp Z Λ S M → zD Z l d mmC [.ref (Λ 1)] M mc ms (some v) M) (h4 : sc S 4 = 1 := by first | assumption | exact (cset_ne (by decide)).trans (by assumption) | exact (cset_ne (by omega)).trans (by assumption)) : zHfC Z l mmW [.ref x, .ref od] x m o od S (.int 0) (wP S 1001 z.toNat) := by
  refine ⟨?_, h4⟩
  rintro M ⟨Λ, hR, h1, h2, h4, h6⟩ Q hQ
  refine zX.more (hw M Q (fun oc M' => oc = .inl (some v) ∧ M' = M) mc ms (by rw [← h1]; exact hR.kd (lvC h3 (by omega))) (by rw [← h1]; exact ((hf Λ M hR _ ⟨rfl, rfl⟩).deep hd)) (fun v' M' hv => ?_) (fun k M' hk => nomatch hk.1)) hc hs
  obtain ⟨hv, rfl⟩ := hv
  have ho := (hR.outs.1 h5).2
  rw [h6] at ho
  refine ⟨Sum.inl.inj hv, ho.1, ho.2.1, hQ _ ⟨Λ, ?_, h1, h2, h4, h6⟩⟩
  rw [← h6]
  exact hR.outDb
theorem wd_tw {mmW mmC : zMeth} {d mc ms k : Nat} {c : Int32} (hw : ∀ (M : zMem) (Q Post : zO → zMem → Prop) (mc ms : Nat), mK M x = 26 → zX Z l 9 mmC 0 (lv_args 0 [.ref x]) [] M mc ms Post → (∀ v' M', ¬ Post (.inl v') M') → (∀ k' M', Post (.inr k') M' → k' = k ∧ Q (.inl (some (.int c))) M') → zX Z l 10 mmW 0 (lv_args 0 [.ref x, .ref od]) [] M mc ms Q)
    (h3 : sc S 3 = 1) (hd : d ≤ 9) (hc : mc ≤ 200) (hs : ms ≤ 1000) (hf : ∀ Λ M, zRp Z Λ S M → zTw Z l d mmC [.ref (Λ 1)] M mc ms k M) (h4 : sc S 4 = 1 := by first | assumption | exact (cset_ne (by decide)).trans (by assumption) | exact (cset_ne (by omega)).trans (by assumption)) : zHfC Z l mmW [.ref x, .ref od] x m o od S (.int c) S := by
  refine ⟨?_, h4⟩
  rintro M ⟨Λ, hR, h1, h2, h4, h6⟩ Q hQ
  refine zX.more (hw M Q (fun oc M' => oc = .inr k ∧ M' = M) mc ms (by rw [← h1]; exact hR.kd (lvC h3 (by omega))) (by rw [← h1]; exact ((hf Λ M hR _ ⟨rfl, rfl⟩).deep hd)) (fun v' M' hv => nomatch hv.1) (fun k' M' hk => ?_)) hc hs
  obtain ⟨e1, rfl⟩ := hk
  exact ⟨Sum.inr.inj e1, hQ _ ⟨Λ, hR, h1, h2, h4, h6⟩⟩
/-- a call on both sides that tells a double -/
def zOpD (Z : zPar) (l : Launch) (x m o od : Nat) (mW mM : zMeth) (S : zSt) (P : Value → UInt64 → Prop) : Prop := ∃ c v z S1 S2, zHfC Z l mW [.ref x, .ref od] x m o od S (.int c) S1 ∧ zHf Z l mM [.ref m] x m o od S1 v S2 ∧ sV S2 1001 672 = c ∧ P v z ∧ (c = 0 → Jvm.FP.Core.dIsNaN z = false ∧ UInt64.ofNat (sP S2 1001) = z) ∧ rRel S2
theorem op_meanMoney (hS : rRel S) : zOpD Z l x m o od mth_L_meanMoney mth_X16_meanMoney S (fun v z => v = .double z) := by
  have c1 := hS.c1
  have h3 := hS.h3
  have h4 := hS.h4
  have h5 := hS.h5
  have b1 := hS.b1
  by_cases h0 : sc S 1 = 0
  · refine ⟨1, _, FP.dconst0, S, mT S 1, wd_tw (d := 4) (mc := 1) (ms := 6) (k := 3) (fun M Q Post mc ms hx h k0 kx => w_L_meanMoney hx h (fun v M' hv => absurd hv (k0 v M')) (fun k M' hk => kx k M' hk)) h3 (by omega) (by omega) (by omega) (fun Λ M hR => f_meanMoney_0 hR h3 h0), md_g (by omega) (by omega) (by omega) (fun Λ M hR => k_meanMoney_1 hR h4 (by rw [c1]; exact h0)), ?_, rfl, fun g => absurd g (by decide), hS.mT 1⟩
    show u2 (sV S) 1001 672 1 1001 672 = 1
    exact u2_at
  have hm : fMoneyM S (sc S 1) = fMoney S (sc S 1) := by
    have key : ∀ n, n ≤ sc S 1 → fMoneyM S n = fMoney S n := by
      intro n
      induction n with
      | zero => intro _; rfl
      | succ n ih =>
        intro hn
        show fMoneyM S n + sV S (1140 + n) 550 = fMoney S n + sV S (140 + n) 167
        rw [ih (by omega), (hS.ac n (by omega)).2.2.2.2.2.2.2]
    exact key _ (Nat.le_refl _)
  have hz : nI (sc S 1) ≠ 0 := nI_ne0 (by omega) (by omega)
  have hN := ddiv_ok (a := fMoney S (sc S 1)) hz
  generalize hr : FP.ddiv (FP.i2d (fMoney S (sc S 1))) (FP.i2d (nI (sc S 1))) = r at *
  refine ⟨0, .double r, r, wP S 1001 r.toNat, mT (wP S 1001 r.toNat) 0, wd_ok (d := 4) (mc := 0) (ms := 0) (v := .double r) (fun M Q Post mc ms hx h k0 kx => w_L_meanMoney hx h (fun v M' hv => ⟨r, k0 v M' hv⟩) (fun k M' hk => absurd hk (kx k M'))) h3 h5 (by omega) (by omega) (by omega) (fun Λ M hR => ?_), md_g (d := 3) (mc := 1) (ms := 4) (by omega) (by omega) (by omega) (fun Λ M hR => ?_), ?_, rfl, fun _ => ⟨hN, ?_⟩, (hS.wP (by omega) (by omega)).mT 0⟩
  · have f := f_meanMoney (l := l) hR h3 (by omega) (by rw [hr]; exact n64_ok hN)
    rw [hr] at f
    exact f
  · have em : fMoneyM (wP S 1001 r.toNat) (sc S 1001) = fMoney S (sc S 1) := by
      rw [c1, ← hm]
      rfl
    have f := k_meanMoney (l := l) (S := wP S 1001 r.toNat) hR h4 (by rw [c1]; omega) (by
      show vf_n64 (FP.ddiv (FP.i2d (fMoneyM (wP S 1001 r.toNat) (sc S 1001))) (FP.i2d (nI (sc S 1001))))
      rw [em, c1, hr]
      exact n64_ok hN)
    have f : zG Z l 3 mth_X16_meanMoney [.ref (Λ 1001)] M 1 4 (some (.double (FP.ddiv (FP.i2d (fMoneyM (wP S 1001 r.toNat) (sc S 1001))) (FP.i2d (nI (sc S 1001)))))) (zRp Z Λ (mT (wP S 1001 r.toNat) 0)) := f
    rw [em, c1, hr] at f
    exact f
  · show u2 (sV S) 1001 672 0 1001 672 = 0
    exact u2_at
  · show UInt64.ofNat (u1 (sP S) 1001 r.toNat 1001) = r
    rw [u1_at]
    exact UInt64.ofNat_toNat
/-- how many turns there are -/
def cT (S : zSt) (n : Nat) : Nat := zit (fun i c => c + sc S (10 + i)) n 0
theorem count_eq (hS : rRel S) : ∀ n, n ≤ sc S 0 → fCountT S n = nI (cT S n) ∧ fManyM S n = nI (cT S n) ∧ cT S n ≤ 8 * n := by
  intro n
  induction n with
  | zero => intro _; exact ⟨rfl, rfl, Nat.le_refl _⟩
  | succ n ih =>
    intro hn
    obtain ⟨h1, h2, h3⟩ := ih (by omega)
    have hk := hS.bk (show n < sc S 0 by omega)
    have hc := hS.ck (show n < sc S 0 by omega)
    have hP : ∀ c b, fManyP c (nI b) = nI (b + c) := by
      intro c
      induction c with
      | zero => intro b; rfl
      | succ c ih =>
        intro b
        show fManyP c (nI b) + 1 = nI (b + (c + 1))
        rw [ih, nI_1]
        rfl
    refine ⟨?_, ?_, ?_⟩
    · show fCountT S n + nI (sc S (10 + n)) = nI (cT S n + sc S (10 + n))
      rw [h1, nI_add]
    · show fManyP (sc S (1010 + n)) (fManyM S n) = nI (cT S n + sc S (10 + n))
      rw [h2, hc, hP]
    · show cT S n + sc S (10 + n) ≤ _
      omega
theorem good_eq (hS : rRel S) : ∀ n, n ≤ sc S 0 → fGoodTm S n = fGoodT S n := by
  intro n
  induction n with
  | zero => intro _; rfl
  | succ n ih =>
    intro hn
    show fGoodPm S n (sc S (1010 + n)) (fGoodTm S n) = fGoodP S n (sc S (10 + n)) (fGoodT S n)
    rw [ih (by omega), hS.ck (by omega)]
    have key : ∀ k b, k ≤ sc S (10 + n) → fGoodPm S n k b = fGoodP S n k b := by
      intro k b
      induction k with
      | zero => intro _; rfl
      | succ k ihk =>
        intro hk
        show fGoodPm S n k b + zb (fGoodM S n k) = fGoodP S n k b + zb (fGood S n k)
        rw [ihk (by omega)]
        congr 2
        obtain ⟨-, ⟨t1, t2⟩, -, -, -, -, -, t8, -⟩ := hS.tu n k (by omega) (by omega)
        unfold fGoodM fGood
        rw [t1, t8]
        congr 1
        by_cases g : sV S (160 + 8 * n + k) 423 = 0
        · rw [if_pos g, decide_eq_true (rfl : (-1 : Int32) = -1), decide_eq_false (fun q => q g)]
          rfl
        · rw [if_neg g, decide_eq_false (t2 g), decide_eq_true g]
          rfl
    exact key _ _ (Nat.le_refl _)
theorem op_goodShare (hS : rRel S) : zOpD Z l x m o od mth_L_goodShare mth_X16_goodShare S (fun v z => ∃ f, v = .float f ∧ z = FP.f2d f) := by
  have c0 := hS.c0
  have h3 := hS.h3
  have h4 := hS.h4
  have h5 := hS.h5
  have b0 := hS.b0
  by_cases hp : sV S 7 228 = 0
  · refine ⟨1, _, _, S, mT S 1, wd_tw (d := 4) (mc := 1) (ms := 6) (k := 1) (fun M Q Post mc ms hx h k0 kx => w_L_goodShare hx h (fun v M' hv => absurd hv (k0 v M')) (fun k M' hk => Or.inl (kx k M' hk))) h3 (by omega) (by omega) (by omega) (fun Λ M hR => f_goodShare_0 hR h3 hp), md_g (by omega) (by omega) (by omega) (fun Λ M hR => k_goodShare_1 hR h4 (by rw [hS.da.1.1]; exact hp)), ?_, ⟨_, rfl, rfl⟩, fun g => absurd g (by decide), hS.mT 1⟩
    show u2 (sV S) 1001 672 1 1001 672 = 1
    exact u2_at
  have hp' : ¬ sV S 1001 680 = 0 := by rw [hS.da.1.1]; exact hp
  obtain ⟨e1, e2, e3⟩ := count_eq hS (sc S 0) (Nat.le_refl _)
  have e4 := good_eq hS (sc S 0) (Nat.le_refl _)
  by_cases h0 : cT S (sc S 0) = 0
  · refine ⟨2, _, _, S, mT S 2, wd_tw (d := 4) (mc := 1) (ms := 6) (k := 3) (fun M Q Post mc ms hx h k0 kx => w_L_goodShare hx h (fun v M' hv => absurd hv (k0 v M')) (fun k M' hk => Or.inr (kx k M' hk))) h3 (by omega) (by omega) (by omega) (fun Λ M hR => f_goodShare_1 hR h3 hp (by rw [e1, h0]; decide)), md_g (by omega) (by omega) (by omega) (fun Λ M hR => k_goodShare_2 hR h4 hp' (by rw [c0, e2, h0]; rfl)), ?_, ⟨_, rfl, rfl⟩, fun g => absurd g (by decide), hS.mT 2⟩
    show u2 (sV S) 1001 672 2 1001 672 = 2
    exact u2_at
  have hz : nI (cT S (sc S 0)) ≠ 0 := nI_ne0 (by omega) (by omega)
  have hN := fdiv_ok (a := fGoodT S (sc S 0)) hz
  have hpos : 0 < fCountT S (sc S 0) := by
    rw [e1]
    exact nI_lt (a := 0) (by omega) (by omega)
  rw [← e1] at hN hz
  generalize hr : FP.fdiv (FP.i2f (fGoodT S (sc S 0))) (FP.i2f (fCountT S (sc S 0))) = r at *
  refine ⟨0, .float r, FP.f2d r, wP S 1001 (FP.f2d r).toNat, mT (wP S 1001 (FP.f2d r).toNat) 0, wd_ok (d := 4) (mc := 0) (ms := 0) (v := .float r) (fun M Q Post mc ms hx h k0 kx => w_L_goodShare hx h (fun v M' hv => ⟨r, (k0 v M' hv).1, n64_ok (f2d_ok hN), (k0 v M' hv).2⟩) (fun k M' hk => absurd hk (kx k M'))) h3 h5 (by omega) (by omega) (by omega) (fun Λ M hR => ?_), md_g (d := 3) (mc := 7) (ms := 28) (by omega) (by omega) (by omega) (fun Λ M hR => ?_), ?_, ⟨_, rfl, rfl⟩, fun _ => ⟨f2d_ok hN, ?_⟩, (hS.wP (by omega) (by omega)).mT 0⟩
  · have f := f_goodShare (l := l) hR h3 hp hpos (by rw [hr]; exact n32_ok hN)
    rw [hr] at f
    exact f
  · have eg : fGoodTm (wP S 1001 (FP.f2d r).toNat) (sc S 1000) = fGoodT S (sc S 0) := by
      rw [c0, ← e4]
      rfl
    have en : fManyM (wP S 1001 (FP.f2d r).toNat) (sc S 1000) = fCountT S (sc S 0) := by
      rw [c0, e1, ← e2]
      rfl
    have f := k_goodShare (l := l) (S := wP S 1001 (FP.f2d r).toNat) hR h4 hp' (by
      show ¬ fManyM (wP S 1001 (FP.f2d r).toNat) (sc S 1000) = 0
      rw [en]
      exact hz) (by
      show vf_n32 (FP.fdiv (FP.i2f (fGoodTm (wP S 1001 (FP.f2d r).toNat) (sc S 1000))) (FP.i2f (fManyM (wP S 1001 (FP.f2d r).toNat) (sc S 1000))))
      rw [eg, en, hr]
      exact n32_ok hN)
    have f : zG Z l 3 mth_X16_goodShare [.ref (Λ 1001)] M 7 28 (some (.float (FP.fdiv (FP.i2f (fGoodTm (wP S 1001 (FP.f2d r).toNat) (sc S 1000))) (FP.i2f (fManyM (wP S 1001 (FP.f2d r).toNat) (sc S 1000)))))) (zRp Z Λ (mT (wP S 1001 (FP.f2d r).toNat) 0)) := f
    rw [eg, en, hr] at f
    exact f
  · show u2 (sV S) 1001 672 0 1001 672 = 0
    exact u2_at
  · show UInt64.ofNat (u1 (sP S) 1001 (FP.f2d r).toNat 1001) = FP.f2d r
    rw [u1_at]
    exact UInt64.ofNat_toNat
end ZOP15
