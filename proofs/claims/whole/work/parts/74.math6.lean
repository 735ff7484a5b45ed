/-! the class's reduced rows and what the reference knows -/
theorem lft_z {f : Nat → Nat} : ∀ (k i : Nat), (∀ j, i ≤ j → j < i + k → f j = 0) → lft f k i = none
  | 0, _, _ => rfl
  | k + 1, i, h => by
    simp only [lft]
    rw [if_pos (h i (by omega) (by omega))]
    exact lft_z k (i + 1) (fun j h1 h2 => h j (by omega) (by omega))
theorem cF_cg {ro ro' : Nat → Option Nat} : ∀ j, (∀ i, i < j → ro i = ro' i) → cF ro j = cF ro' j
  | 0, _ => rfl
  | j + 1, h => by
    simp only [cF]
    rw [h j (by omega), cF_cg j (fun i hi => h i (by omega))]
theorem rds_sum {n q : Nat} {M : Nat → Nat → Nat} {r0 : Nat → Option Nat} : ∀ j, (rds n q M r0 j).2.2 + cF (rds n q M r0 j).2.1 j = j
  | 0 => rfl
  | j + 1 => by
    have ih := rds_sum (n := n) (q := q) (M := M) (r0 := r0) j
    show (rst n q j (rds n q M r0 j)).2.2 + cF (rst n q j (rds n q M r0 j)).2.1 (j + 1) = j + 1
    generalize rds n q M r0 j = z at ih ⊢
    have hc : ∀ o, cF (va_up z.2.1 j o) j = cF z.2.1 j := fun o => cF_cg j (fun i hi => up_of _ _ (by omega))
    rcases hf : fR z.1 j (n - z.2.2) z.2.2 with _ | r
    · have es : rst n q j z = (z.1, va_up z.2.1 j none, z.2.2) := by unfold rst; rw [hf]
      rw [es]
      dsimp only
      rw [cF_none (up_at _ _ _), hc]; omega
    · have es : (rst n q j z).2 = (va_up z.2.1 j (some z.2.2), z.2.2 + 1) := by unfold rst; rw [hf]
      rw [es]
      dsimp only
      rw [cF_some (up_at _ _ _), hc]; omega
theorem rho_zero {hd iv : Nat → Nat} {RW : Nat → Nat → Nat} : ∀ R k, rho hd iv RW (fun _ => 0) R k = 0
  | 0, _ => rfl
  | r + 1, k => by
    simp only [rho]
    rw [rho_zero r k, rho_zero r (hd r)]; simp
theorem ref_zero {n q : Nat} {E : Nat → Nat → Nat} (hq : 2 ≤ q) (hi : hasInv q) (hE : ∀ l, l < n → ∀ k, k < n → E l k < q) {v : Nat → Nat} (hv : ∀ k, k < n → v k < q) {x : Nat → Int} (h : ∀ k, k < n → cg q (v k : Int) (lc n E x k)) : lft (tkE n q E v).1 n 0 = none := by
  have hI := knN_refI hq hi hE n (Nat.le_refl n)
  have hL := knN_lt hq hi hE n (Nat.le_refl n)
  refine lft_z n 0 (fun k _ hk => cg_eq (q := q) ((tkE_lt hq hv).1 k (by omega)) (by omega) ?_)
  have h1 := tk_rho (n := n) (q := q) (by omega) (RW := (knN n q E n).2.1) (PS := (knN n q E n).2.2.1) (z := (v, fun _ => 0)) (knN n q E n).1 hL.1 k (by omega)
  refine h1.trans ?_
  refine (rho_cg h (knN n q E n).1 hL.1 k (by omega)).trans ?_
  have h2 := rho_lin (hd := (knN n q E n).2.2.2.1) (iv := ivR q (knN n q E n).2.1 (knN n q E n).2.2.2.1) (RW := (knN n q E n).2.1) (n := n) (x := x) (V := fun l k => (E l k : Int)) (knN n q E n).1 k
  unfold lc
  rw [h2]
  have h3 := cg_iS (q := q) n (f := fun i => rho (knN n q E n).2.2.2.1 (ivR q (knN n q E n).2.1 (knN n q E n).2.2.2.1) (knN n q E n).2.1 (fun k => (E i k : Int)) (knN n q E n).1 k * x i) (g := fun _ => 0) (fun i hi2 => ((hI.2.2.1 i hi2 k (by omega)).mul (cg.rfl' (a := x i))).trans (cg.of (Int.zero_mul _)))
  refine h3.trans (cg.of ?_)
  rw [iS_zero]; rfl
theorem ref_sol {n q : Nat} {E : Nat → Nat → Nat} (hq : 2 ≤ q) (hi : hasInv q) (hE : ∀ l, l < n → ∀ k, k < n → E l k < q) {v : Nat → Nat} (h : lft (tkE n q E v).1 n 0 = none) : ∀ k, k < n → cg q (lc n E (fun m => ((tkE n q E v).2 m : Int)) k) (v k : Int) := by
  intro k hk
  have hI := knN_refI hq hi hE n (Nat.le_refl n)
  have ht := tk_lc (n := n) (q := q) (E := E) (by omega) (hd := (knN n q E n).2.2.2.1) (z := (v, fun _ => 0)) (knN n q E n).1 hI.1 k hk
  change cg q (((tkE n q E v).1 k : Int) + lc n E (fun m => ((tkE n q E v).2 m : Int)) k) ((v k : Int) + lc n E (fun _ => ((0 : Nat) : Int)) k) at ht
  rw [lft_none n 0 h k (by omega) (by omega), lc_zero, Int.add_zero, show (((0 : Nat) : Int)) = 0 from rfl, Int.zero_add] at ht
  exact ht
theorem ref_sup {n q : Nat} {E : Nat → Nat → Nat} (hq : 2 ≤ q) (hi : hasInv q) (hE : ∀ l, l < n → ∀ k, k < n → E l k < q) {v : Nat → Nat} {j : Nat} (h : frE n q E j) : (tkE n q E v).2 j = 0 := by
  have hI := knN_refI hq hi hE n (Nat.le_refl n)
  exact tk_sup (z := (v, fun _ => 0)) rfl _ (fun r hr => hI.2.1 r hr j (Or.inr h))
section MT
variable {n q : Nat} {E M : Nat → Nat → Nat} {b : Nat → Nat} {r0 : Nat → Option Nat}
theorem mt_lt (hE : ∀ l, l < n → ∀ k, k < n → E l k < q) (hb : ∀ k, k < n → b k < q) (hM : ∀ i, i < n → ∀ j, j < n → M i j = E j i) (hMb : ∀ i, i < n → M i n = b i) : ∀ i, i < n → ∀ k, k < n + 1 → M i k < q := by
  intro i hi2 k hk
  by_cases e : k = n
  · rw [e, hMb i hi2]; exact hb i hi2
  · rw [hM i hi2 k (by omega)]; exact hE k (by omega) i hi2
theorem mt_free (hq : 2 ≤ q) (hi : hasInv q) (hE : ∀ l, l < n → ∀ k, k < n → E l k < q) (hb : ∀ k, k < n → b k < q) (hM : ∀ i, i < n → ∀ j, j < n → M i j = E j i) (hMb : ∀ i, i < n → M i n = b i) {j : Nat} (hj : j < n) : (rds n q M r0 n).2.1 j = none ↔ frE n q E j := by
  have hlt := mt_lt hE hb hM hMb
  obtain ⟨hI, hK⟩ := rds_all hq hi hlt n (Nat.le_refl n) (ro := r0)
  have hR := rds_lt (by omega) hlt n (Nat.le_refl n) (ro := r0)
  generalize rds n q M r0 n = z at hI hK hR ⊢
  obtain ⟨R, ro, bd⟩ := z
  dsimp only at hI hK hR ⊢
  constructor
  · intro hf
    have h1 := (kr_lc hM hMb _).mp ((hK _).mp (cls_quiet hI hR hj hf))
    have hx : ∀ m, m < n → j < m → qv q R ro j m = 0 := by
      intro m hm hjm
      unfold qv
      rw [if_neg (by omega)]
      rcases hrm : ro m with _ | r
      · rfl
      · have := (hI.2.1 m hm r hrm).2.2.2 j hjm
        dsimp only at this ⊢
        rw [this, Nat.sub_zero, Nat.mod_self]
    have hrI := knN_refI hq hi hE j (Nat.le_of_lt hj)
    have hL := knN_lt hq hi hE j (Nat.le_of_lt hj)
    refine lft_z n 0 (fun k _ hk => cg_eq (q := q) ((knT_lt (c := knN n q E j) hq (hE j hj)).1 k (by omega)) (by omega) ?_)
    have g1 := tk_rho (n := n) (q := q) (by omega) (RW := (knN n q E j).2.1) (PS := (knN n q E j).2.2.1) (z := (E j, fun _ => 0)) (knN n q E j).1 hL.1 k (by omega)
    refine g1.trans ?_
    have g2 := rho_lin (hd := (knN n q E j).2.2.2.1) (iv := ivR q (knN n q E j).2.1 (knN n q E j).2.2.2.1) (RW := (knN n q E j).2.1) (n := n) (x := fun m => if m = n then 0 else (qv q R ro j m : Int)) (V := fun l k => (E l k : Int)) (knN n q E j).1 k
    have g3 := rho_cg (q := q) (n := n) (hd := (knN n q E j).2.2.2.1) (iv := ivR q (knN n q E j).2.1 (knN n q E j).2.2.2.1) (RW := (knN n q E j).2.1) (v := lc n E (fun m => if m = n then 0 else (qv q R ro j m : Int))) (w := fun _ => 0) (fun i hi2 => by
      have := h1 i hi2
      rw [if_pos rfl, Int.mul_zero, Int.add_zero] at this
      exact cg0.mpr this) (knN n q E j).1 hL.1 k (by omega)
    rw [rho_zero] at g3
    unfold lc at g3
    rw [g2] at g3
    have g4 := iS_single (q := (q : Int)) (f := fun i => rho (knN n q E j).2.2.2.1 (ivR q (knN n q E j).2.1 (knN n q E j).2.2.2.1) (knN n q E j).2.1 (fun k => (E i k : Int)) (knN n q E j).1 k * (if i = n then 0 else (qv q R ro j i : Int))) n hj (fun i hi2 hne => by
      by_cases e : i < j
      · exact Int.dvd_mul_of_dvd_left (cg0.mp (hrI.2.2.1 i e k (by omega)))
      · rw [if_neg (by omega), hx i hi2 (by omega)]; simp)
    have g5 := (show cg q _ _ from g4).symm.trans g3
    rw [if_neg (by omega), show qv q R ro j j = 1 by unfold qv; rw [if_pos rfl]] at g5
    exact (cg.of (by simp)).trans g5
  · intro hf
    have hrI := knN_refI hq hi hE n (Nat.le_refl n)
    obtain ⟨f1, f2, f3, f4⟩ := hrI.2.2.2 j hj hf
    generalize (knN n q E n).2.2.2.2.2 (knN n q E j).2.2.2.2.1 = Q at f2 f3 f4
    have h1 : kr q n R (fun m => if m = n then 0 else (Q m : Int)) := by
      refine (hK _).mpr ((kr_lc hM hMb _).mpr (fun i hi2 => ?_))
      rw [if_pos rfl, Int.mul_zero, Int.add_zero]
      refine cg0.mp ((lc_cg (fun m hm => cg.of ?_) i).trans (f3 i hi2))
      rw [if_neg (by omega)]
    rcases hr : ro j with _ | r
    · rfl
    · exfalso
      obtain ⟨e1, e2, e3, e4⟩ := hI.2.1 j hj r hr
      have e0 := hI.1
      dsimp only at e0 e1 e2 e3 e4
      have hk := h1 r (by omega)
      have g4 := iS_single (q := (q : Int)) (f := fun m => (R r m : Int) * (if m = n then 0 else (Q m : Int))) (n + 1) (show j < n + 1 by omega) (fun m hm hne => by
        by_cases e : m = n
        · rw [if_pos e, Int.mul_zero]; exact Int.dvd_zero _
        · rw [if_neg e]
          by_cases e5 : m < j
          · rw [e4 m e5]; simp
          · rw [f4 m hne (Or.inl (by omega))]; simp)
      have g5 := dvd_of_sub' g4 hk
      rw [if_neg (by omega), e2, f2] at g5
      have g6 : q ∣ 1 := Int.ofNat_dvd.mp (by simpa using g5)
      have := Nat.le_of_dvd (by omega) g6
      omega
theorem mt_cnt (hq : 2 ≤ q) (hi : hasInv q) (hE : ∀ l, l < n → ∀ k, k < n → E l k < q) (hb : ∀ k, k < n → b k < q) (hM : ∀ i, i < n → ∀ j, j < n → M i j = E j i) (hMb : ∀ i, i < n → M i n = b i) : ∀ l, l ≤ n → cF (rds n q M r0 n).2.1 l = (knN n q E l).2.2.2.2.1
  | 0, _ => rfl
  | l + 1, hl => by
    have ih := mt_cnt hq hi hE hb hM hMb l (by omega)
    have hf := mt_free (r0 := r0) hq hi hE hb hM hMb (show l < n by omega)
    show _ = (knS n q E l (knN n q E l)).2.2.2.2.1
    unfold knS
    unfold frE at hf
    rcases hr : (rds n q M r0 n).2.1 l with _ | r
    · rw [cF_none hr, ih]
      rw [hf.mp hr]
    · rw [cF_some hr, ih]
      rcases h2 : lft (knT n q E l (knN n q E l)).1 n 0 with _ | h0
      · rw [hf.mpr h2] at hr; cases hr
      · rfl
theorem mt_bd (hq : 2 ≤ q) (hi : hasInv q) (hE : ∀ l, l < n → ∀ k, k < n → E l k < q) (hb : ∀ k, k < n → b k < q) (hM : ∀ i, i < n → ∀ j, j < n → M i j = E j i) (hMb : ∀ i, i < n → M i n = b i) : (rds n q M r0 n).2.2 = (knN n q E n).1 := by
  have h1 := mt_cnt (r0 := r0) hq hi hE hb hM hMb n (Nat.le_refl n)
  have h2 := rds_sum (n := n) (q := q) (M := M) (r0 := r0) n
  have h3 := knN_sum (n := n) (q := q) (E := E) n
  omega
theorem mt_solv (hq : 2 ≤ q) (hi : hasInv q) (hE : ∀ l, l < n → ∀ k, k < n → E l k < q) (hb : ∀ k, k < n → b k < q) (hM : ∀ i, i < n → ∀ j, j < n → M i j = E j i) (hMb : ∀ i, i < n → M i n = b i) : agr (rds n q M r0 n).1 n (n - (rds n q M r0 n).2.2) (rds n q M r0 n).2.2 = (lft (tkE n q E b).1 n 0).isNone := by
  have hlt := mt_lt hE hb hM hMb
  obtain ⟨hI, hK⟩ := rds_all hq hi hlt n (Nat.le_refl n) (ro := r0)
  have hR := rds_lt (by omega) hlt n (Nat.le_refl n) (ro := r0)
  generalize rds n q M r0 n = z at hI hK hR ⊢
  obtain ⟨R, ro, bd⟩ := z
  dsimp only at hI hK hR ⊢
  rcases ha : agr R n (n - bd) bd with _ | _
  · rcases hl : lft (tkE n q E b).1 n 0 with _ | h0
    · exfalso
      have h1 := ref_sol hq hi hE hl
      refine cls_none hI hR ha (x := fun m => if m = n then -1 else ((tkE n q E b).2 m : Int)) ((hK _).mpr ((kr_lc hM hMb _).mpr (fun i hi2 => ?_))) (if_pos rfl)
      rw [if_pos rfl]
      have h2 : cg q (lc n E (fun m => if m = n then -1 else ((tkE n q E b).2 m : Int)) i) (b i : Int) := (lc_cg (fun m hm => cg.of (if_neg (by omega))) i).trans (h1 i hi2)
      have e : lc n E (fun m => if m = n then -1 else ((tkE n q E b).2 m : Int)) i + (b i : Int) * -1 = lc n E (fun m => if m = n then -1 else ((tkE n q E b).2 m : Int)) i - (b i : Int) := by omega
      rw [e]; exact h2
    · rfl
  · have h1 := (kr_lc hM hMb _).mp ((hK _).mp (cls_ans (q := q) hI ha))
    rw [ref_zero hq hi hE hb (x := fun j => if j = n then -1 else (prs R ro n j : Int)) (fun k hk => cg.symm (by
      have := h1 k hk
      rw [if_pos rfl] at this
      unfold cg
      have e : ∀ y : Int, y + (b k : Int) * -1 = y - (b k : Int) := fun y => by omega
      rw [e] at this; exact this))]
    rfl
theorem mt_ans (hq : 2 ≤ q) (hi : hasInv q) (hE : ∀ l, l < n → ∀ k, k < n → E l k < q) (hb : ∀ k, k < n → b k < q) (hM : ∀ i, i < n → ∀ j, j < n → M i j = E j i) (hMb : ∀ i, i < n → M i n = b i) (hl : lft (tkE n q E b).1 n 0 = none) {j : Nat} (hj : j < n) : prs (rds n q M r0 n).1 (rds n q M r0 n).2.1 n j = (tkE n q E b).2 j := by
  have hlt := mt_lt hE hb hM hMb
  have hF := fun (m : Nat) (hm : m < n) => mt_free (r0 := r0) hq hi hE hb hM hMb hm
  obtain ⟨hI, hK⟩ := rds_all hq hi hlt n (Nat.le_refl n) (ro := r0)
  have hR := rds_lt (by omega) hlt n (Nat.le_refl n) (ro := r0)
  generalize rds n q M r0 n = z at hI hK hR hF ⊢
  obtain ⟨R, ro, bd⟩ := z
  dsimp only at hI hK hR hF ⊢
  rcases hr : ro j with _ | r
  · rw [ref_sup hq hi hE ((hF j hj).mp hr)]
    unfold prs; rw [hr]
  · have h1 := ref_sol hq hi hE hl
    have hk : kr q n R (fun m => if m = n then -1 else ((tkE n q E b).2 m : Int)) := (hK _).mpr ((kr_lc hM hMb _).mpr (fun i hi2 => by
      rw [if_pos rfl]
      have h2 : cg q (lc n E (fun m => if m = n then -1 else ((tkE n q E b).2 m : Int)) i) (b i : Int) := (lc_cg (fun m hm => cg.of (if_neg (by omega))) i).trans (h1 i hi2)
      have e : lc n E (fun m => if m = n then -1 else ((tkE n q E b).2 m : Int)) i + (b i : Int) * -1 = lc n E (fun m => if m = n then -1 else ((tkE n q E b).2 m : Int)) i - (b i : Int) := by omega
      rw [e]; exact h2))
    have h3 := cls_row hI hk (fun f hf hrf => by
      rw [if_neg (by omega), ref_sup hq hi hE ((hF f hf).mp hrf)]; exact Int.dvd_zero _) hj hr
    rw [if_neg (by omega), if_pos rfl] at h3
    have e0 := hI.1
    have e1 := (hI.2.1 j hj r hr).1
    dsimp only at e0 e1
    have h4 : cg q ((tkE n q E b).2 j : Int) (R r n : Int) := by
      have e : ((tkE n q E b).2 j : Int) + (R r n : Int) * -1 = ((tkE n q E b).2 j : Int) - (R r n : Int) := by omega
      rw [e] at h3; exact h3
    unfold prs
    rw [hr]
    exact (cg_eq ((tkE_lt hq hb).2 j hj) (hR r (by omega) n (by omega)) h4).symm
theorem mt_quiet (hq : 2 ≤ q) (hi : hasInv q) (hE : ∀ l, l < n → ∀ k, k < n → E l k < q) (hb : ∀ k, k < n → b k < q) (hM : ∀ i, i < n → ∀ j, j < n → M i j = E j i) (hMb : ∀ i, i < n → M i n = b i) {f : Nat} (hf : f < n) (hfr : (rds n q M r0 n).2.1 f = none) {i : Nat} (hi2 : i < n) : qv q (rds n q M r0 n).1 (rds n q M r0 n).2.1 f i = (knN n q E n).2.2.2.2.2 (cF (rds n q M r0 n).2.1 f) i := by
  have hlt := mt_lt hE hb hM hMb
  have hF := fun (m : Nat) (hm : m < n) => mt_free (r0 := r0) hq hi hE hb hM hMb hm
  rw [mt_cnt hq hi hE hb hM hMb f (Nat.le_of_lt hf)]
  obtain ⟨hI, hK⟩ := rds_all hq hi hlt n (Nat.le_refl n) (ro := r0)
  have hR := rds_lt (by omega) hlt n (Nat.le_refl n) (ro := r0)
  obtain ⟨f1, f2, f3, f4⟩ := (knN_refI hq hi hE n (Nat.le_refl n)).2.2.2 f hf ((hF f hf).mp hfr)
  have hQ := (knN_lt hq hi hE n (Nat.le_refl n)).2.2.2.2 _ f1
  generalize (knN n q E n).2.2.2.2.2 (knN n q E f).2.2.2.2.1 = Q at f2 f3 f4 hQ ⊢
  generalize rds n q M r0 n = z at hI hK hR hF hfr ⊢
  obtain ⟨R, ro, bd⟩ := z
  dsimp only at hI hK hR hF hfr ⊢
  by_cases e : i = f
  · rw [e, f2]; unfold qv; rw [if_pos rfl]
  · rcases hr : ro i with _ | r
    · rw [f4 i e (Or.inr ((hF i hi2).mp hr))]
      unfold qv; rw [if_neg e, hr]
    · have h1 := (kr_lc hM hMb _).mp ((hK _).mp (cls_quiet hI hR hf hfr))
      have hk : kr q n R (fun m => if m = n then 0 else (qv q R ro f m : Int) + -1 * (Q m : Int)) := (hK _).mpr ((kr_lc hM hMb _).mpr (fun a ha => by
        rw [if_pos rfl, Int.mul_zero, Int.add_zero]
        have g1 := h1 a ha
        rw [if_pos rfl, Int.mul_zero, Int.add_zero] at g1
        have g2 : cg q (lc n E (fun m => (qv q R ro f m : Int)) a) 0 := (lc_cg (fun m hm => cg.of (by rw [if_neg (by omega)])) a).trans (cg0.mpr g1)
        refine cg0.mp ((lc_cg (fun m hm => cg.of (if_neg (by omega))) a).trans ?_)
        rw [lc_add, lc_smul]
        exact (g2.add (cg.rfl'.mul (f3 a ha))).trans (cg.of (by simp))))
      have h3 := cls_row hI hk (fun g hg hrg => by
        rw [if_neg (by omega)]
        by_cases e2 : g = f
        · rw [e2, f2, show qv q R ro f f = 1 by unfold qv; rw [if_pos rfl]]; exact Int.dvd_zero _
        · rw [f4 g e2 (Or.inr ((hF g hg).mp hrg)), show qv q R ro f g = 0 by unfold qv; rw [if_neg e2, hrg]]; exact Int.dvd_zero _) hi2 hr
      rw [if_neg (by omega), if_pos rfl, Int.mul_zero, Int.add_zero] at h3
      refine cg_eq (q := q) ?_ (hQ i hi2) ?_
      · unfold qv; rw [if_neg e, hr]; exact Nat.mod_lt _ (by omega)
      · have e5 : (qv q R ro f i : Int) + -1 * (Q i : Int) = (qv q R ro f i : Int) - (Q i : Int) := by omega
        rw [e5] at h3; exact h3
end MT
