/-! AN ACT MADE -/
section ZACT
variable {Z : zPar} {Λ : Nat → Nat} {S : zSt} {M : zMem} {q n g : Nat} {mi lo sk li fi : Int32}
theorem zki_A {n : Nat} (hn : n < 10) : zki (140 + n) = 15 := by
  unfold zki
  rw [if_neg (by omega), if_neg (by omega), if_neg (by omega), if_neg (by omega), if_neg (by omega), if_pos (by omega)]
theorem zle_A {n : Nat} (hn : n < 10) : zle (140 + n) = 0 := by
  unfold zle
  rw [if_neg (by omega), if_neg (by omega), if_neg (by omega), if_pos (by omega), if_neg (by omega)]
def fActN (n : Nat) (mi lo sk li fi : Int32) (k : Nat) : Int32 := if k = 168 then zbit (nI n) else if k = 164 then fi else if k = 165 then li else if k = 163 then sk else if k = 162 then lo else if k = 161 then mi else if k = 160 then nI n else 0
abbrev mActN (M : zMem) (q g n : Nat) (mi lo sk li fi : Int32) : zMem := sI (sI (sI (sI (sI (sI (sI (zNew M q 15 0 g) q 160 (nI n)) q 161 mi) q 162 lo) q 163 sk) q 165 li) q 164 fi) q 168 ((1 : Int32) <<< (nI n &&& 31))
theorem mActN_ag (hq : mK M q = 0) : ∀ a, mK M a ≠ 0 → zAg M (mActN M q g n mi lo sk li fi) a := by
  intro a ha
  have hqa : a ≠ q := fun e => ha (e ▸ hq)
  exact ⟨u1_ne hqa, u1_ne hqa, u1_ne hqa, (u2_ne hqa).trans ((u2_ne hqa).trans ((u2_ne hqa).trans ((u2_ne hqa).trans ((u2_ne hqa).trans ((u2_ne hqa).trans ((u2_ne hqa).trans (u1_ne hqa))))))), u1_ne hqa, u1_ne hqa, u1_ne hqa, u1_ne hqa, u1_ne hqa⟩
theorem mActN_vI {k : Nat} : vI (mActN M q g n mi lo sk li fi) q k = fActN n mi lo sk li fi k := by
  have e0 : vI (zNew M q 15 0 g) q = fun _ => 0 := u1_at
  show u2 (u2 (u2 (u2 (u2 (u2 (u2 (vI (zNew M q 15 0 g)) q 160 (nI n)) q 161 mi) q 162 lo) q 163 sk) q 165 li) q 164 fi) q 168 ((1 : Int32) <<< (nI n &&& 31)) q k = _
  unfold u2 fActN
  simp only [and_true, e0]
theorem zOne_act (hn : n < 8) (hb : zBnd (sc S)) {V' W' : Nat → Nat → Int32} {T' : Nat → Nat → Nat} {P' : Nat → Nat} {c' : Nat → Nat} (hb' : zBnd c') (hV : ∀ k, V' (140 + n) k = fActN n mi lo sk li fi k) (hW : ∀ j, W' (140 + n) j = 0) : zOne Z (u1 Λ (140 + n) q) (c', V', W', T', P') (mActN M q (140 + n) n mi lo sk li fi) (140 + n) := by
  have e : u1 Λ (140 + n) q (140 + n) = q := u1_at
  refine ⟨⟨?_, ?_⟩, ⟨fun h => absurd (zle_A (by omega)) h, fun k hk => ?_⟩, fun h => ?_, fun h => ?_, ⟨fun k _ _ => ?_, fun j => ?_⟩, fun i k hi hk h => ?_, fun j hj h => ?_⟩
  · rw [e, zki_A (by omega)]
    exact u1_at
  · rw [e]
    exact u1_at
  · have := zpt_dom hk
    omega
  · rw [zki_A (by omega)] at h
    omega
  · omega
  · rw [e]
    exact mActN_vI.trans (hV k).symm
  · rw [e]
    exact (congrFun (u1_at : u1 (aI M) q (fun _ => 0) q = fun _ => 0) j).trans (hW j).symm
  · omega
  · have := hb'.1.2.2.1
    omega
end ZACT
