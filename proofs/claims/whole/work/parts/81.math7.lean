/-- v is a combination of the rows of M -/
def spn (q n : Nat) (M : Nat → Nat → Nat) (v : Nat → Nat) : Prop := ∃ y : Nat → Int, ∀ k, k < n + 1 → cg q (v k : Int) (iS (fun m => (M m k : Int) * y m) n)
theorem spn_self {q n : Nat} {M : Nat → Nat → Nat} {i : Nat} (hi : i < n) : spn q n M (M i) :=
  ⟨fun m => if m = i then 1 else 0, fun k _ => cg.of (by rw [iS_delta (f := fun m => (M m k : Int)), if_pos hi])⟩
theorem spn_ad {q n f : Nat} {M : Nat → Nat → Nat} {r s : Nat → Nat} (hr : spn q n M r) (hs : spn q n M s) : spn q n M (adR n q f r s) := by
  obtain ⟨y, hy⟩ := hr
  obtain ⟨w, hw⟩ := hs
  refine ⟨fun m => y m + w m * (f : Int), fun k hk => ?_⟩
  show cg q ((if k < n + 1 then (r k + s k * f) % q else r k : Nat) : Int) _
  rw [if_pos hk]
  refine (cg_mod _).trans ?_
  rw [Int.natCast_add, Int.natCast_mul]
  refine ((hy k hk).add ((hw k hk).mul cg.rfl')).trans (cg.of ?_)
  rw [← iS_mulr, ← iS_add]
  exact iS_congr n (fun m _ => by rw [Int.mul_add, Int.mul_assoc])
theorem spn_sc {q n f : Nat} {M : Nat → Nat → Nat} {r : Nat → Nat} (hr : spn q n M r) : spn q n M (scR n q f r) := by
  obtain ⟨y, hy⟩ := hr
  refine ⟨fun m => y m * (f : Int), fun k hk => ?_⟩
  show cg q ((if k < n + 1 then r k * f % q else r k : Nat) : Int) _
  rw [if_pos hk]
  refine (cg_mod _).trans ?_
  rw [Int.natCast_mul]
  refine ((hy k hk).mul cg.rfl').trans (cg.of ?_)
  rw [← iS_mulr]
  exact iS_congr n (fun m _ => by rw [Int.mul_assoc])
theorem rst_spn {q n j : Nat} {M : Nat → Nat → Nat} {z : (Nat → Nat → Nat) × (Nat → Option Nat) × Nat} (h : ∀ i, i < n → spn q n M (z.1 i)) : ∀ i, i < n → spn q n M ((rst n q j z).1 i) := by
  unfold rst
  split
  · exact h
  · rename_i r hr
    have h1 := fR_some _ _ hr
    have hs : ∀ i, i < n → spn q n M (va_up (swp r z.2.2 z.1) z.2.2 (scR n q (ivq q (z.1 r j) (q - 2) 2) (z.1 r)) i) := by
      intro i hi
      by_cases e : i = z.2.2
      · rw [e, up_at]; exact spn_sc (h r (by omega))
      · rw [up_of _ _ e]
        unfold swp
        rw [if_neg e]
        by_cases e2 : i = r
        · rw [if_pos e2]; exact h _ (by omega)
        · rw [if_neg e2]; exact h i hi
    intro i hi
    dsimp only
    unfold clr
    split
    · exact hs i hi
    · exact spn_ad (hs i hi) (hs _ (by omega))
theorem rds_spn {q n : Nat} {M : Nat → Nat → Nat} {r0 : Nat → Option Nat} : ∀ j, ∀ i, i < n → spn q n M ((rds n q M r0 j).1 i)
  | 0 => fun i hi => spn_self hi
  | j + 1 => rst_spn (rds_spn j)
/-- the lamp l can be changed alone: the class's word for it and the reference's -/
theorem mt_alone {n q : Nat} {E M : Nat → Nat → Nat} {b : Nat → Nat} {r0 : Nat → Option Nat} (hq : 2 ≤ q) (hi : hasInv q) (hE : ∀ l, l < n → ∀ k, k < n → E l k < q) (hb : ∀ k, k < n → b k < q) (hM : ∀ i, i < n → ∀ j, j < n → M i j = E j i) (hMb : ∀ i, i < n → M i n = b i) (hsym : ∀ i, i < n → ∀ j, j < n → E i j = E j i) {l : Nat} (hl : l < n) :
    (∀ f, f < n → (rds n q M r0 n).2.1 f = none → qv q (rds n q M r0 n).1 (rds n q M r0 n).2.1 f l = 0) ↔ lft (tkE n q E (onV l)).1 n 0 = none := by
  have hlt := mt_lt hE hb hM hMb
  obtain ⟨hI, hK⟩ := rds_all hq hi hlt n (Nat.le_refl n) (ro := r0)
  have hR := rds_lt (by omega) hlt n (Nat.le_refl n) (ro := r0)
  have hsp := rds_spn (q := q) (n := n) (M := M) (r0 := r0) n
  generalize rds n q M r0 n = z at hI hK hR hsp ⊢
  obtain ⟨R, ro, bd⟩ := z
  dsimp only at hI hK hR hsp ⊢
  have hov : ∀ k, k < n → onV l k < q := fun k _ => by unfold onV; split <;> omega
  constructor
  · intro h
    rcases hr : ro l with _ | r
    · have := h l hl hr
      unfold qv at this
      rw [if_pos rfl] at this
      omega
    · obtain ⟨e1, e2, e3, e4⟩ := hI.2.1 l hl r hr
      have e0 := hI.1
      dsimp only at e0 e1 e2 e3 e4
      have hrow : ∀ k, k < n → R r k = onV l k := by
        intro k hk
        unfold onV
        by_cases ek : k = l
        · rw [if_pos ek, ek]; exact e2
        · rw [if_neg ek]
          rcases hrk : ro k with _ | r2
          · have h1 := h k hk hrk
            unfold qv at h1
            rw [if_neg (fun h => ek h.symm), hr] at h1
            dsimp only at h1
            have h2 := hR r (by omega) k (by omega)
            by_cases e5 : R r k = 0
            · exact e5
            · rw [Nat.mod_eq_of_lt (by omega)] at h1
              omega
          · have hne : r ≠ r2 := fun h9 => ek (hI.2.2.2.2 k l r hk hl (by dsimp only; rw [hrk, h9]) hr)
            have := (hI.2.1 k hk r2 hrk).2.2.1 r (by omega) hne
            exact this
      obtain ⟨y, hy⟩ := hsp r (by omega)
      refine ref_zero hq hi hE hov (x := y) (fun k hk => ?_)
      rw [← hrow k hk]
      refine (hy k (by omega)).trans (cg.of ?_)
      unfold lc
      exact iS_congr n (fun m hm => by rw [hM m hm k hk, hsym k hk m hm])
  · intro h f hf hfr
    have h1 := ref_sol hq hi hE h
    have h2 := (kr_lc hM hMb _).mp ((hK _).mp (cls_quiet hI hR hf hfr))
    have h3 : ∀ i, i < n → cg q (lc n E (fun m => (qv q R ro f m : Int)) i) 0 := fun i hi2 => by
      have g1 := h2 i hi2
      rw [if_pos rfl, Int.mul_zero, Int.add_zero] at g1
      exact (lc_cg (fun m hm => cg.of (by rw [if_neg (by omega)])) i).trans (cg0.mpr g1)
    -- the sum over k of onV l k * x k, in two ways
    have s1 : iS (fun k => (onV l k : Int) * (qv q R ro f k : Int)) n = (qv q R ro f l : Int) := by
      have e1 : iS (fun k => (onV l k : Int) * (qv q R ro f k : Int)) n = iS (fun k => (qv q R ro f k : Int) * (if k = l then 1 else 0)) n := iS_congr n (fun k _ => by
        unfold onV
        by_cases ek : k = l
        · rw [if_pos ek, if_pos ek]; simp
        · rw [if_neg ek, if_neg ek]; simp)
      rw [e1, iS_delta (f := fun k => (qv q R ro f k : Int)), if_pos hl]
    have s2 : cg q (iS (fun k => (onV l k : Int) * (qv q R ro f k : Int)) n) (iS (fun k => lc n E (fun m => ((tkE n q E (onV l)).2 m : Int)) k * (qv q R ro f k : Int)) n) := cg_iS n (fun k hk => (h1 k hk).symm.mul cg.rfl')
    have s3 : iS (fun k => lc n E (fun m => ((tkE n q E (onV l)).2 m : Int)) k * (qv q R ro f k : Int)) n = iS (fun m => lc n E (fun k => (qv q R ro f k : Int)) m * ((tkE n q E (onV l)).2 m : Int)) n := by
      have e1 : iS (fun k => lc n E (fun m => ((tkE n q E (onV l)).2 m : Int)) k * (qv q R ro f k : Int)) n = iS (fun k => iS (fun m => (E m k : Int) * ((tkE n q E (onV l)).2 m : Int) * (qv q R ro f k : Int)) n) n := iS_congr n (fun k _ => by unfold lc; rw [← iS_mulr])
      rw [e1, iS_swap]
      refine iS_congr n (fun m hm => ?_)
      unfold lc
      rw [← iS_mulr]
      refine iS_congr n (fun k hk => ?_)
      rw [hsym m hm k hk, Int.mul_assoc, Int.mul_assoc, Int.mul_comm ((tkE n q E (onV l)).2 m : Int)]
    have s4 : cg q (iS (fun m => lc n E (fun k => (qv q R ro f k : Int)) m * ((tkE n q E (onV l)).2 m : Int)) n) 0 := by
      have := cg_iS (q := q) n (f := fun m => lc n E (fun k => (qv q R ro f k : Int)) m * ((tkE n q E (onV l)).2 m : Int)) (g := fun _ => 0) (fun m hm => ((h3 m hm).mul cg.rfl').trans (cg.of (Int.zero_mul _)))
      rw [iS_zero] at this
      exact this
    rw [s1, s3] at s2
    have hq1 : qv q R ro f l < q := by
      unfold qv
      split
      · omega
      · split
        · omega
        · exact Nat.mod_lt _ (by omega)
    exact cg_eq hq1 (by omega) (s2.trans s4)
