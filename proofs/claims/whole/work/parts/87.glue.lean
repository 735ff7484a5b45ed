/-! what the class has worked out and what the reference has worked out are alike -/
section GM
theorem eff_lt (jn ns : Nat → Bool) (a b : Nat) : eff jn ns a b < 2 := by
  unfold eff
  split <;> split <;> omega
/-- the two graphs, states and wishes are alike -/
def gmI (n q : Nat) (tm st wt sm wm : Nat → Nat) (jn ns : Nat → Bool) : Prop :=
  (∀ j, j < n → tm j < 2 ^ 30) ∧ (∀ j, j < n → st j < q) ∧ (∀ j, j < n → wt j < q) ∧ (∀ j, j < n → sm j = st j) ∧ (∀ j, j < n → wm j = wt j) ∧ (∀ i, i < n → ∀ j, j < n → tm j / 2 ^ i % 2 = eff jn ns j i) ∧ ∀ i, i < n → ∀ j, j < n → eff jn ns i j = eff jn ns j i
variable {n q : Nat} {tm st wt sm wm : Nat → Nat} {jn ns : Nat → Bool} {gR gQ : Nat → Nat} {pr : Nat → Nat → Nat} {ro : Nat → Option Nat} {bd fr : Nat}
theorem gm_hyp (hg : gmI n q tm st wt sm wm jn ns) (hq : 2 ≤ q) {M : Nat → Nat → Nat} (h1 : ∀ i, i < n → ∀ j, j < n → M i j = tm j / 2 ^ i % 2) (h2 : ∀ i, i < n → M i n = (wt i + q - st i) % q) :
    (∀ l, l < n → ∀ k, k < n → eff jn ns l k < q) ∧ (∀ k, k < n → dfV q sm wm k < q) ∧ (∀ i, i < n → ∀ j, j < n → M i j = eff jn ns j i) ∧ ∀ i, i < n → M i n = dfV q sm wm i := by
  obtain ⟨g1, g2, g3, g4, g5, g6, g7⟩ := hg
  refine ⟨fun l _ k _ => by have := eff_lt jn ns l k; omega, fun k _ => Nat.mod_lt _ (by omega), fun i hi j hj => by rw [h1 i hi j hj, g6 i hi j hj], fun i hi => by rw [h2 i hi]; unfold dfV; rw [g4 i hi, g5 i hi]⟩
theorem gm_rank (hg : gmI n q tm st wt sm wm jn ns) (hq : 2 ≤ q) (hi : hasInv q) (hs : eqS n q tm st wt gR gQ pr ro bd fr) : bd = (knN n q (eff jn ns) n).1 := by
  obtain ⟨M, r0, h1, h2, h3, h4, h5, h6, h7⟩ := hs
  obtain ⟨a1, a2, a3, a4⟩ := gm_hyp hg hq h1 h2
  rw [h5]
  exact mt_bd hq hi a1 a2 a3 a4
theorem gm_fr (hg : gmI n q tm st wt sm wm jn ns) (hq : 2 ≤ q) (hi : hasInv q) (hs : eqS n q tm st wt gR gQ pr ro bd fr) : fr = (knN n q (eff jn ns) n).2.2.2.2.1 := by
  obtain ⟨M, r0, h1, h2, h3, h4, h5, h6, h7⟩ := hs
  obtain ⟨a1, a2, a3, a4⟩ := gm_hyp hg hq h1 h2
  rw [h6, h4]
  exact mt_cnt hq hi a1 a2 a3 a4 n (Nat.le_refl n)
theorem agr_congr {M M' : Nat → Nat → Nat} {n N : Nat} (h : ∀ i, i < N → M i n = M' i n) : ∀ k r, r + k ≤ N → agr M n k r = agr M' n k r
  | 0, _, _ => rfl
  | k + 1, r, hr => by
    simp only [agr]
    rw [h r (by omega), agr_congr h k (r + 1) (by omega)]
theorem gm_agr (hg : gmI n q tm st wt sm wm jn ns) (hq : 2 ≤ q) (hi : hasInv q) (hs : eqS n q tm st wt gR gQ pr ro bd fr) : agr (fun i => pr (gR i)) n (n - bd) bd = (lft (tkE n q (eff jn ns) (dfV q sm wm)).1 n 0).isNone := by
  have hb := (hs.lt hq).2.2.1
  obtain ⟨M, r0, h1, h2, h3, h4, h5, h6, h7⟩ := hs
  obtain ⟨a1, a2, a3, a4⟩ := gm_hyp hg hq h1 h2
  rw [← mt_solv (r0 := r0) hq hi a1 a2 a3 a4, ← h5]
  exact agr_congr (N := n) (fun i hi => by show pr (gR i) n = _; rw [h3 i hi]) _ _ (by omega)
theorem gm_ans (hg : gmI n q tm st wt sm wm jn ns) (hq : 2 ≤ q) (hi : hasInv q) (hs : eqS n q tm st wt gR gQ pr ro bd fr) (hl : lft (tkE n q (eff jn ns) (dfV q sm wm)).1 n 0 = none) {j : Nat} (hj : j < n) : prs (fun i => pr (gR i)) ro n j = (tkE n q (eff jn ns) (dfV q sm wm)).2 j := by
  have hlt := hs.lt hq
  obtain ⟨M, r0, h1, h2, h3, h4, h5, h6, h7⟩ := hs
  obtain ⟨a1, a2, a3, a4⟩ := gm_hyp hg hq h1 h2
  rw [← mt_ans (r0 := r0) hq hi a1 a2 a3 a4 hl hj, ← h4]
  unfold prs
  rcases hr : ro j with _ | r
  · rfl
  · have e1 := hlt.2.1 j hj r hr
    have e2 := hlt.2.2.1
    show pr (gR r) n = _
    rw [h3 r (by omega)]
theorem gm_quiet (hg : gmI n q tm st wt sm wm jn ns) (hq : 2 ≤ q) (hi : hasInv q) (hs : eqS n q tm st wt gR gQ pr ro bd fr) {k j : Nat} (hk : k < fr) (hj : j < n) : pr (gQ k) j = (knN n q (eff jn ns) n).2.2.2.2.2 k j := by
  obtain ⟨M, r0, h1, h2, h3, h4, h5, h6, h7⟩ := hs
  obtain ⟨a1, a2, a3, a4⟩ := gm_hyp hg hq h1 h2
  rw [h6] at hk
  obtain ⟨f, e1, e2, e3⟩ := cF_ex ro n k hk
  have e4 := mt_quiet (r0 := r0) hq hi a1 a2 a3 a4 e1 (by rw [← h4]; exact e2) hj
  rw [← h4, e3] at e4
  rw [← e4, ← e3]
  exact h7 f e1 e2 j hj
theorem gm_alone (hg : gmI n q tm st wt sm wm jn ns) (hq : 2 ≤ q) (hi : hasInv q) (hs : eqS n q tm st wt gR gQ pr ro bd fr) {l : Nat} (hl : l < n) : (∀ k, k < fr → pr (gQ k) l = 0) ↔ lft (tkE n q (eff jn ns) (onV l)).1 n 0 = none := by
  obtain ⟨M, r0, h1, h2, h3, h4, h5, h6, h7⟩ := hs
  obtain ⟨a1, a2, a3, a4⟩ := gm_hyp hg hq h1 h2
  rw [← mt_alone (r0 := r0) hq hi a1 a2 a3 a4 hg.2.2.2.2.2.2 hl, ← h4]
  constructor
  · intro h f hf hn
    have hk : cF ro f < fr := by rw [h6]; exact cF_lt hn n hf
    rw [← h7 f hf hn l hl]
    exact h _ hk
  · intro h k hk
    rw [h6] at hk
    obtain ⟨f, e1, e2, e3⟩ := cF_ex ro n k hk
    rw [← e3, h7 f e1 e2 l hl]
    exact h f e1 e2
/-! the search -/
theorem twF_cg {n q fr : Nat} {QU QU' : Nat → Nat → Nat} (hQ : ∀ k, k < fr → ∀ l, l < n → QU k l = QU' k l) : ∀ (g k r : Nat) (f f' : Nat → Nat), r < q ^ (fr - k) → (∀ l, l < n → f l = f' l) → ∀ l, l < n → twF q QU g k r f l = twF q QU' g k r f' l
  | 0, _, _, _, _, _, h => h
  | g + 1, k, r, f, f', hr, h => by
    simp only [twF]
    by_cases e : r = 0
    · rw [if_pos e, if_pos e]; exact h
    · rw [if_neg e, if_neg e]
      have hk : k < fr := by
        rcases Nat.lt_or_ge k fr with h1 | h1
        · exact h1
        · rw [show fr - k = 0 by omega, Nat.pow_zero] at hr; omega
      refine twF_cg hQ g (k + 1) (r / q) _ _ ?_ (fun l hl => ?_)
      · rw [show fr - k = fr - (k + 1) + 1 by omega, Nat.pow_succ] at hr
        exact Nat.div_lt_of_lt_mul (by rw [Nat.mul_comm]; exact hr)
      · rw [h l hl, hQ k hk l hl]
theorem ttF_cg {n q fr : Nat} {QU QU' : Nat → Nat → Nat} {an an' : Nat → Nat} (hQ : ∀ k, k < fr → ∀ l, l < n → QU k l = QU' k l) (ha : ∀ l, l < n → an l = an' l) {w : Nat} (hw : w < q ^ fr) {l : Nat} (hl : l < n) : ttF q QU an w l = ttF q QU' an' w l :=
  twF_cg hQ w 0 w an an' (by rw [Nat.sub_zero]; exact hw) ha l hl
theorem fbN_cg {n : Nat} {t t' : Nat → Nat → Nat} : ∀ W, (∀ w, w ≤ W → ∀ l, l < n → t w l = t' w l) → (∀ l, l < n → (fbN n t W).1 l = (fbN n t' W).1 l) ∧ (fbN n t W).2 = (fbN n t' W).2
  | 0, h => ⟨h 0 (Nat.le_refl 0), sumF_congr n (h 0 (Nat.le_refl 0))⟩
  | W + 1, h => by
    obtain ⟨h1, h2⟩ := fbN_cg W (fun w hw => h w (by omega))
    simp only [fbN]
    rw [h2]
    exact srK_cg2 (h (W + 1) (Nat.le_refl _)) h1
theorem gm_sr (hg : gmI n q tm st wt sm wm jn ns) (hn : n < 31) (hq : 2 ≤ q) (hq2 : q < 100) (hi : hasInv q) (hs : eqS n q tm st wt gR gQ pr ro bd fr) {le : Nat → Nat} {tot z : Int32} {B : Nat → Nat} (h : srOK n q gQ (gR, pr, ro, bd, fr) le tot)
    (hf : fbP n q (knN n q (eff jn ns) n).2.2.2.2.1 (lft (tkE n q (eff jn ns) (dfV q sm wm)).1 n 0).isNone (ttF q (knN n q (eff jn ns) n).2.2.2.2.2 (tkE n q (eff jn ns) (dfV q sm wm)).2) z B) : z = tot ∧ (tot < 0 ∨ (0 ≤ tot ∧ ∀ j, j < n → le j = B j)) := by
  have eA := gm_agr hg hq hi hs
  have eF := gm_fr hg hq hi hs
  have eQ : ∀ k, k < fr → ∀ l, l < n → pr (gQ k) l = (knN n q (eff jn ns) n).2.2.2.2.2 k l := fun k hk l hl => gm_quiet hg hq hi hs hk hl
  have eav : e5av n q (gR, pr, ro, bd, fr) = if (lft (tkE n q (eff jn ns) (dfV q sm wm)).1 n 0).isNone = true then aut q 20000 fr 1 else 0 := by
    unfold e5av
    dsimp only
    rw [eA]
  obtain ⟨o1, o2⟩ := h
  rcases hf with ⟨f1, f2⟩ | ⟨f1, f2, f3⟩ | ⟨a, f1, f2, f3, f4⟩
  · have e0 : e5av n q (gR, pr, ro, bd, fr) = 0 := by rw [eav, f1]; rfl
    have e1 : tot = -1 := by rw [o1, e0]; rfl
    exact ⟨by rw [f2, e1], Or.inl (by rw [e1]; decide)⟩
  · have e0 : e5av n q (gR, pr, ro, bd, fr) = aut q 20000 fr 1 := by rw [eav, f1, if_pos rfl]
    have a2 := (aut_fn (q := q) fr 1 (by omega)).1 (by rw [eF]; exact f2)
    have e1 : tot = -2 := by rw [o1, e0]; unfold rTot; rw [if_neg (by omega), if_pos a2]
    exact ⟨by rw [f3, e1], Or.inl (by rw [e1]; decide)⟩
  · have a2 := (aut_fn (q := q) fr 1 (by omega)).2 a (by rw [eF]; exact f2)
    have a3 := fnA_some _ _ _ f2
    rw [← eF, Nat.one_mul] at a3
    have ap : 0 < q ^ fr := Nat.pow_pos (by omega)
    have e0 : e5av n q (gR, pr, ro, bd, fr) = a := by rw [eav, f1, if_pos rfl]; exact a2.1
    have hl0 := Option.isNone_iff_eq_none.mp f1
    have hd : ∀ k, k < n → dfV q sm wm k < q := fun k _ => Nat.mod_lt _ (by omega)
    have hsr : e5sr n q gQ (gR, pr, ro, bd, fr) = srN n q fr (fun k j => pr (gQ k) j) (prs (fun i => pr (gR i)) ro n) (a - 1) := by
      unfold e5sr
      rw [e0]
    have han : ∀ l, l < n → prs (fun i => pr (gR i)) ro n l = (tkE n q (eff jn ns) (dfV q sm wm)).2 l := fun l hl => gm_ans hg hq hi hs hl0 hl
    obtain ⟨-, -, -, -, b1, b2⟩ := srN_fb (n := n) (q := q) (fr := fr) (QU := fun k j => pr (gQ k) j) (an := prs (fun i => pr (gR i)) ro n) hq (hs.qlt hq) (fun l hl => by rw [han l hl]; exact (tkE_lt hq hd).2 l hl) (a - 1) (by omega)
    obtain ⟨c1, c2⟩ := fbN_cg (n := n) (t := ttF q (fun k j => pr (gQ k) j) (prs (fun i => pr (gR i)) ro n)) (t' := ttF q (knN n q (eff jn ns) n).2.2.2.2.2 (tkE n q (eff jn ns) (dfV q sm wm)).2) (a - 1) (fun w hw l hl => ttF_cg eQ han (by omega) hl)
    have hlt := (fbN_lt (n := n) (q := q) (t := ttF q (knN n q (eff jn ns) n).2.2.2.2.2 (tkE n q (eff jn ns) (dfV q sm wm)).2) (fun w l hl => ttF_lt (by omega) (tkE_lt hq hd).2 w l hl) (a - 1)).2
    have hm : n * q ≤ 31 * 100 := Nat.mul_le_mul (by omega) (by omega)
    rw [e0] at o1 o2
    rw [hsr] at o1 o2
    have e1 : tot = nI (fbN n (ttF q (knN n q (eff jn ns) n).2.2.2.2.2 (tkE n q (eff jn ns) (dfV q sm wm)).2) (a - 1)).2 := by
      rw [o1, b2, c2]
      unfold rTot
      rw [if_neg (by omega), if_neg (by omega)]
    refine ⟨by rw [f3, e1], Or.inr ⟨by rw [e1]; exact nI_pos' (by omega), fun j hj => ?_⟩⟩
    rw [o2 (by omega) a2.2 j hj, b1 j hj, c1 j hj, f4 j hj]
theorem gm_best {le B : Nat → Nat} {tot z : Int32} {j : Nat} (h : z = tot ∧ (tot < 0 ∨ (0 ≤ tot ∧ ∀ j, j < n → le j = B j))) (hj : j < n) : (if 0 ≤ tot then nI (le j) else tot) = if z < 0 then z else nI (B j) := by
  obtain ⟨rfl, h | ⟨h, h2⟩⟩ := h
  · rw [if_neg (by rw [Int32.not_le]; exact h), if_pos h]
  · rw [if_pos h, if_neg (by rw [Int32.not_lt]; exact h), h2 j hj]
/-! the count -/
theorem gm_count {dg dm : Nat → Nat} {ag : Bool} (hq2 : q < 10) {k : Nat} {x z : Int32} (h : dgP (mulN q (va_up dm 0 (if ag = true then 1 else 0), 1) (if ag = true then k else 0)) x z) : (if x < 0 ∨ nI (mulN q (va_up dg 0 (if ag = true then 1 else 0), 1) k).2 ≤ x then -1 else nI ((mulN q (va_up dg 0 (if ag = true then 1 else 0), 1) k).1 x.toNatClampNeg)) = z := by
  have key : ∀ (w w' : (Nat → Nat) × Nat), w.2 ≤ 26 → w.2 = w'.2 → (∀ j, j < w.2 → w.1 j = w'.1 j) → dgP w' x z → (if x < 0 ∨ nI w.2 ≤ x then -1 else nI (w.1 x.toNatClampNeg)) = z := by
    intro w w' h0 h1 h2 h3
    rcases h3 with ⟨rfl, h3⟩ | ⟨j, hj, rfl, rfl⟩
    · rcases pk_ix x (n := w.2) (by omega) with h | h | ⟨j, hj, h⟩
      · rw [if_pos (Or.inl h)]
      · rw [if_pos (Or.inr h)]
      · exact absurd h (h3 j (by omega))
    · rw [if_neg, nI_clamp (by omega), h2 j (by omega)]
      rintro (h | h)
      · exact nI_pos (by omega) h
      · rw [nI_leI (by omega) (by omega)] at h; omega
  cases ag with
  | true =>
    rw [if_pos rfl] at h ⊢
    rw [if_pos rfl] at h
    obtain ⟨e1, e2⟩ := mulN_congr (x := q) (z := (va_up dg 0 1, 1)) (z' := (va_up dm 0 1, 1)) rfl (fun j hj => by dsimp only at hj ⊢; rw [show j = 0 by omega, up_at, up_at]) k
    exact key _ _ (mulN_ok hq2 (by show 1 ≤ 26; omega) (fun j hj => by dsimp only at hj ⊢; rw [show j = 0 by omega, up_at]; decide) k).1 e1 e2 h
  | false =>
    rw [show (if (false = true) then (1 : Nat) else 0) = 0 from rfl] at h ⊢
    rw [show (if (false = true) then k else 0) = 0 from rfl] at h
    obtain ⟨e1, e2⟩ := mulN_zero (x := q) (dg := dg) k
    exact key _ _ (by omega) e1 (fun j hj => by rw [show j = 0 by omega, e2]; show 0 = va_up dm 0 0 0; rw [up_at]) h
end GM
