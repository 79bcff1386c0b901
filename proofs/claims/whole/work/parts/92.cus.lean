/-! CUSTOMS: who leads to whom, in the class's closure and in the reference's recursion; ranks -/
def rE (W : Nat → Nat → Int32) (a b : Nat) : Prop := a < 8 ∧ b < 8 ∧ ¬ W (1030 + a) b = 0
/-- by n others -/
def rPt (W : Nat → Nat → Int32) : Nat → Nat → Nat → Prop
  | 0, a, b => rE W a b
  | n + 1, a, b => ∃ k, rE W a k ∧ rPt W n k b
theorem u2_if {α : Type} {f : Nat → Nat → α} {a k b j : Nat} {v : α} : u2 f a k v b j = if j = k ∧ b = a then v else f b j := rfl
theorem zit_s {α : Type} {f : Nat → α → α} {n : Nat} {a : α} : zit f (n + 1) a = f n (zit f n a) := rfl
theorem zit_0 {α : Type} {f : Nat → α → α} {a : α} : zit f 0 a = a := rfl
section ZCUS
variable {S : zSt} {W : Nat → Nat → Int32} {n : Nat} {rk : Nat → Nat}
theorem rPt_lt : ∀ {m a b : Nat}, rPt W m a b → a < 8 ∧ b < 8
  | 0, _, _, h => ⟨h.1, h.2.1⟩
  | _ + 1, _, _, ⟨_, h1, h2⟩ => ⟨h1.1, (rPt_lt h2).2⟩
theorem rPt_rk (hrk : ∀ a, a < 8 → rk a < 8 ∧ ∀ b, b < 8 → ¬ W (1030 + a) b = 0 → rk b < rk a) : ∀ {m a b : Nat}, rPt W m a b → rk b + m + 1 ≤ rk a
  | 0, a, b, h => (hrk a h.1).2 b h.2.1 h.2.2
  | m + 1, a, b, ⟨k, h1, h2⟩ => by
    have g1 := (hrk a h1.1).2 k h1.2.1 h1.2.2
    have g2 := rPt_rk hrk h2
    omega
theorem rPt_8 (hrk : ∀ a, a < 8 → rk a < 8 ∧ ∀ b, b < 8 → ¬ W (1030 + a) b = 0 → rk b < rk a) {m a b : Nat} (h : rPt W m a b) : m < 8 := by
  have h1 := rPt_rk hrk h
  have h2 := (hrk a (rPt_lt h).1).1
  omega
theorem fCA_iff (hE : ∀ a b, a < 8 → b < 8 → ¬ sW S (1030 + a) b = 0 → b < sc S 1001) (hn : sc S 1001 ≤ 8) : ∀ {f a o : Nat}, a < 8 → o < 8 → (fCA S f a o = true ↔ ∃ m, m < f ∧ rPt (sW S) m a o)
  | 0, a, o, _, _ => by
    unfold fCA
    constructor
    · intro h; cases h
    · rintro ⟨m, hm, -⟩; omega
  | f + 1, a, o, ha, ho => by
    unfold fCA
    rw [Bool.or_eq_true, zany_iff]
    constructor
    · rintro (h | ⟨k, hk, h⟩)
      · exact ⟨0, by omega, ha, ho, of_decide_eq_true h⟩
      · rw [Bool.and_eq_true] at h
        obtain ⟨m, hm, hp⟩ := (fCA_iff hE hn (by omega) ho).mp h.2
        exact ⟨m + 1, by omega, k, ⟨ha, by omega, of_decide_eq_true h.1⟩, hp⟩
    · rintro ⟨m, hm, hp⟩
      match m, hp with
      | 0, hp => exact Or.inl (decide_eq_true hp.2.2)
      | m + 1, ⟨k, h1, h2⟩ =>
        refine Or.inr ⟨k, hE a k h1.1 h1.2.1 h1.2.2, ?_⟩
        rw [Bool.and_eq_true]
        exact ⟨decide_eq_true h1.2.2, (fCA_iff hE hn h1.2.1 ho).mpr ⟨m, by omega, h2⟩⟩
-- the class's closure
theorem fLd_s {m : Nat} {f : Int32} : fLd S (m + 1) f = fLd S m f ||| (if fLd S m f &&& zbit (nI m) = 0 then 0 else sW S 9 m) := rfl
theorem fLd_mono {f : Int32} {j : Nat} (h : bt f j = true) : ∀ m, bt (fLd S m f) j = true
  | 0 => h
  | m + 1 => by
    rw [fLd_s, b_or, fLd_mono h m, Bool.true_or]
theorem fLd_add {f : Int32} {j k : Nat} (hk8 : k < 8) (hk : bt f k = true) (h : bt (sW S 9 k) j = true) : ∀ m, k < m → bt (fLd S m f) j = true
  | m + 1, hm => by
    rw [fLd_s, b_or]
    by_cases e : k = m
    · rw [← e, if_neg ((b_tst' (by omega)).mpr (fLd_mono hk k)), h, Bool.or_true]
    · rw [fLd_add hk8 hk h m (by omega), Bool.true_or]
theorem fLd_sound {P : Nat → Prop} {f : Int32} (hf : ∀ j, j < 32 → bt f j = true → P j) (hs : ∀ k j, k < 8 → j < 32 → P k → bt (sW S 9 k) j = true → P j) : ∀ m, m ≤ 8 → ∀ j, j < 32 → bt (fLd S m f) j = true → P j
  | 0, _, j, hj, h => hf j hj h
  | m + 1, hm, j, hj, h => by
    rw [fLd_s, b_or, Bool.or_eq_true] at h
    rcases h with h | h
    · exact fLd_sound hf hs m (by omega) j hj h
    · by_cases e : fLd S m f &&& zbit (nI m) = 0
      · rw [if_pos e, b_0] at h
        cases h
      · rw [if_neg e] at h
        exact hs m j (by omega) hj (fLd_sound hf hs m (by omega) m (by omega) ((b_tst' (by omega)).mp e)) h
theorem fLead_s {y m : Nat} : fLead S y (m + 1) = fLd S 8 (fLead S y m) := rfl
theorem fLead_iff (h : rCu n (sW S)) {i j : Nat} (hi : i < 8) (hj : j < 8) : bt (fLead S i 8) j = true ↔ ∃ m, rPt (sW S) m j i := by
  obtain ⟨h1, h2, rk, hrk⟩ := h
  have hbit : ∀ k j, k < 8 → j < 32 → bt (sW S 9 k) j = true → rE (sW S) j k := fun k j hk hj hb => by
    have h8 : j < 8 := by
      rcases Nat.lt_or_ge j 8 with g | g
      · exact g
      · rw [h2 k j hk g hj] at hb
        cases hb
    refine ⟨h8, hk, ?_⟩
    have := (h1 j k h8 hk).2.1
    rw [hb] at this
    simpa using this.symm
  have hbit' : ∀ k j, rE (sW S) j k → bt (sW S 9 k) j = true := fun k j hb => by
    rw [(h1 j k hb.1 hb.2.1).2.1, decide_eq_false hb.2.2]
    rfl
  constructor
  · intro h
    have key : ∀ r, ∀ j, j < 32 → bt (fLead S i r) j = true → ∃ m, rPt (sW S) m j i := by
      intro r
      induction r with
      | zero =>
        intro j hj hb
        exact ⟨0, hbit i j hi hj hb⟩
      | succ r ih =>
        intro j hj hb
        rw [fLead_s] at hb
        exact fLd_sound (P := fun j => ∃ m, rPt (sW S) m j i) ih (fun k j hk hj hp hb => by
          obtain ⟨m, hp⟩ := hp
          exact ⟨m + 1, k, hbit k j hk hj hb, hp⟩) 8 (Nat.le_refl _) j hj hb
    exact key 8 j (by omega) h
  · rintro ⟨m, hp⟩
    have key : ∀ r m j, m ≤ r → rPt (sW S) m j i → bt (fLead S i r) j = true := by
      intro r
      induction r with
      | zero =>
        intro m j hm hp
        have : m = 0 := by omega
        subst this
        exact hbit' i j hp
      | succ r ih =>
        intro m j hm hp
        rw [fLead_s]
        match m, hp with
        | 0, hp => exact fLd_mono (ih 0 j (Nat.zero_le _) hp) 8
        | m + 1, ⟨k, g1, g2⟩ => exact fLd_add g1.2.1 (ih m k (by omega) g2) (hbit' k j g1) 8 g1.2.1
    have := rPt_8 hrk hp
    exact key 8 m j (by omega) hp
/-- both say the same -/
theorem lead_eq (h : rCu (sc S 1) (sW S)) (hc : sc S 1001 = sc S 1) (hn : sc S 1 ≤ 8) {i j : Nat} (hi : i < 8) (hj : j < 8) : fCA S 8 j i = bt (fLead S i 8) j := by
  obtain ⟨h1, h2, rk, hrk⟩ := id h
  have e1 := fCA_iff (S := S) (f := 8) (fun a b ha hb hx => by rw [hc]; exact ((h1 a b ha hb).2.2 hx).2) (by omega) hj hi
  have e2 := fLead_iff h hi hj
  rcases hb : bt (fLead S i 8) j with _ | _
  · rcases hc2 : fCA S 8 j i with _ | _
    · rfl
    · obtain ⟨m, -, hp⟩ := e1.mp hc2
      rw [e2.mpr ⟨m, hp⟩] at hb
      cases hb
  · obtain ⟨m, hp⟩ := e2.mp hb
    exact e1.mpr ⟨m, rPt_8 hrk hp, hp⟩
/-- a new rank where b comes below a -/
theorem rank_add (hrk : ∀ a, a < 8 → rk a < 8 ∧ ∀ b, b < 8 → ¬ W (1030 + a) b = 0 → rk b < rk a) {D : Nat → Bool} {i j : Nat} (hj : D j = true) (hi : D i = false) (hD : ∀ a b, rE W a b → D a = true → D b = true) {W' : Nat → Nat → Int32} (hW : ∀ a b, a < 8 → b < 8 → ¬ W' (1030 + a) b = 0 → ¬ W (1030 + a) b = 0 ∨ (a = i ∧ b = j)) (hi8 : i < 8) (hj8 : j < 8) :
    ∃ rk' : Nat → Nat, ∀ a, a < 8 → rk' a < 8 ∧ ∀ b, b < 8 → ¬ W' (1030 + a) b = 0 → rk' b < rk' a := by
  have hr : ∀ a b, a < 8 → b < 8 → ¬ W' (1030 + a) b = 0 → (if D b = true then rk b else rk b + 8) < (if D a = true then rk a else rk a + 8) := by
    intro a b ha hb hx
    rcases hW a b ha hb hx with h | ⟨rfl, rfl⟩
    · have h1 := (hrk a ha).2 b hb h
      rcases hDa : D a with _ | _
      · show _ < rk a + 8
        split
        · have := (hrk b hb).1; omega
        · omega
      · rw [hD a b ⟨ha, hb, h⟩ hDa, if_pos rfl, if_pos rfl]
        exact h1
    · rw [hj, hi, if_pos rfl, if_neg (by simp)]
      have := (hrk b hb).1
      omega
  refine ⟨fun x => cnt (fun y => decide ((if D y = true then rk y else rk y + 8) < (if D x = true then rk x else rk x + 8))) 8, fun a ha => ⟨?_, fun b hb hx => ?_⟩⟩
  · exact cnt_lt (i := a) (decide_eq_false (Nat.lt_irrefl _)) ha
  · have h := hr a b ha hb hx
    refine cnt_mono_lt (k := b) (decide_eq_false (Nat.lt_irrefl _)) (decide_eq_true h) hb (fun y hy hp => ?_)
    have := of_decide_eq_true hp
    exact decide_eq_true (Nat.lt_trans this h)
theorem rCu_set {W' : Nat → Nat → Int32} {i j : Nat} {v : Bool} (h : rCu n W) (hi : i < n) (hj : j < n) (e1 : ∀ a b, W' (1030 + a) b = if b = j ∧ a = i then (if v = true then 1 else 0) else W (1030 + a) b) (e2 : ∀ a b, b < 8 → a < 32 → bt (W' 9 b) a = if b = j ∧ a = i then v else bt (W 9 b) a)
    (hrk : ∃ rk : Nat → Nat, ∀ a, a < 8 → rk a < 8 ∧ ∀ b, b < 8 → ¬ W' (1030 + a) b = 0 → rk b < rk a) (hn : n ≤ 8) : rCu n W' := by
  obtain ⟨h1, h2, -⟩ := h
  refine ⟨fun a b ha hb => ?_, fun b a hb h8 ha => ?_, hrk⟩
  · have g := h1 a b ha hb
    rw [e1 a b, e2 a b hb (by omega)]
    by_cases e : b = j ∧ a = i
    · rw [if_pos e, if_pos e]
      refine ⟨?_, ?_, fun _ => by omega⟩
      · cases v
        · exact Or.inl rfl
        · exact Or.inr rfl
      · cases v <;> rfl
    · rw [if_neg e, if_neg e]
      exact g
  · rw [e2 a b hb ha, if_neg (by omega)]
    exact h2 b a hb h8 ha
theorem rCu_add (h : rCu n W) {i j : Nat} (hi : i < n) (hj : j < n) (hn : n ≤ 8) (hne : i ≠ j) {D : Nat → Bool} (hDj : D j = true) (hDi : D i = false) (hD : ∀ a b, rE W a b → D a = true → D b = true) : rCu n (u2 (u2 W 9 j (W 9 j ||| zbit (nI i))) (1030 + i) j 1) := by
  have e1 : ∀ a b, u2 (u2 W 9 j (W 9 j ||| zbit (nI i))) (1030 + i) j 1 (1030 + a) b = if b = j ∧ a = i then (if true = true then 1 else 0) else W (1030 + a) b := by
    intro a b
    rw [u2_if, u2_if, if_neg (show ¬ (b = j ∧ 1030 + a = 9) by omega)]
    by_cases e : b = j ∧ a = i
    · rw [if_pos e, if_pos (by omega)]; rfl
    · rw [if_neg e, if_neg (by omega)]
  obtain ⟨rk, hrk⟩ := h.2.2
  refine rCu_set (v := true) h hi hj e1 (fun a b hb ha => ?_) (rank_add hrk hDj hDi hD (fun a b ha hb hx => ?_) (by omega) (by omega)) hn
  · rw [u2_if, u2_if, if_neg (show ¬ (b = j ∧ 9 = 1030 + i) by omega)]
    by_cases e : b = j
    · subst e
      rw [if_pos ⟨rfl, rfl⟩, b_or, b_z i (by omega) a ha]
      by_cases g : i = a
      · rw [decide_eq_true g, Bool.or_true, if_pos ⟨rfl, g.symm⟩]
      · rw [decide_eq_false g, Bool.or_false, if_neg (fun q => g q.2.symm)]
    · rw [if_neg (fun q => e q.1), if_neg (fun q => e q.1)]
  · rw [e1 a b] at hx
    by_cases e : b = j ∧ a = i
    · exact Or.inr ⟨e.2, e.1⟩
    · rw [if_neg e] at hx
      exact Or.inl hx
theorem rCu_del (h : rCu n W) {i j : Nat} (hi : i < n) (hj : j < n) (hn : n ≤ 8) : rCu n (u2 (u2 W 9 j (W 9 j &&& (zbit (nI i) ^^^ (-1)))) (1030 + i) j 0) := by
  have e1 : ∀ a b, u2 (u2 W 9 j (W 9 j &&& (zbit (nI i) ^^^ (-1)))) (1030 + i) j 0 (1030 + a) b = if b = j ∧ a = i then (if false = true then 1 else 0) else W (1030 + a) b := by
    intro a b
    rw [u2_if, u2_if, if_neg (show ¬ (b = j ∧ 1030 + a = 9) by omega)]
    by_cases e : b = j ∧ a = i
    · rw [if_pos e, if_pos (by omega)]; rfl
    · rw [if_neg e, if_neg (by omega)]
  obtain ⟨rk, hrk⟩ := h.2.2
  refine rCu_set (v := false) h hi hj e1 (fun a b hb ha => ?_) ⟨rk, fun a ha => ⟨(hrk a ha).1, fun b hb hx => ?_⟩⟩ hn
  · rw [u2_if, u2_if, if_neg (show ¬ (b = j ∧ 9 = 1030 + i) by omega)]
    by_cases e : b = j
    · subst e
      rw [if_pos ⟨rfl, rfl⟩, b_and, b_not ha, b_z i (by omega) a ha]
      by_cases g : i = a
      · rw [decide_eq_true g, if_pos ⟨rfl, g.symm⟩, Bool.not_true, Bool.and_false]
      · rw [decide_eq_false g, if_neg (fun q => g q.2.symm), Bool.not_false, Bool.and_true]
    · rw [if_neg (fun q => e q.1), if_neg (fun q => e q.1)]
  · rw [e1 a b] at hx
    by_cases e : b = j ∧ a = i
    · rw [if_pos e] at hx
      exact absurd rfl hx
    · rw [if_neg e] at hx
      exact (hrk a ha).2 b hb hx
/-- the descendants of j, as the reference finds them -/
theorem desc_ok (hE : ∀ a b, a < 8 → b < 8 → ¬ sW S (1030 + a) b = 0 → b < sc S 1001) (hn : sc S 1001 ≤ 8) (hrk : ∀ a, a < 8 → rk a < 8 ∧ ∀ b, b < 8 → ¬ sW S (1030 + a) b = 0 → rk b < rk a) {j : Nat} (hj : j < 8) : ∀ a b, rE (sW S) a b → (decide (a = j) || (decide (a < 8) && fCA S 8 j a)) = true → (decide (b = j) || (decide (b < 8) && fCA S 8 j b)) = true := by
  have snoc : ∀ m a k b, rPt (sW S) m a k → rE (sW S) k b → rPt (sW S) (m + 1) a b := by
    intro m
    induction m with
    | zero => intro a k b h1 h2; exact ⟨k, h1, h2⟩
    | succ m ih => rintro a k b ⟨k2, g1, g2⟩ h2; exact ⟨k2, g1, ih _ _ _ g2 h2⟩
  intro a b he h
  have hp : ∃ m, rPt (sW S) m j b := by
    rcases Bool.or_eq_true _ _ ▸ h with h | h
    · have := of_decide_eq_true h
      subst this
      exact ⟨0, he⟩
    · rw [Bool.and_eq_true] at h
      obtain ⟨m, -, hp⟩ := (fCA_iff hE hn hj he.1).mp h.2
      exact ⟨m + 1, snoc m j a b hp he⟩
  obtain ⟨m, hp⟩ := hp
  rw [decide_eq_true he.2.1, (fCA_iff hE hn hj he.2.1).mpr ⟨m, rPt_8 hrk hp, hp⟩]
  simp
end ZCUS
