/-- alike, modulo q -/
def cg (q : Nat) (a b : Int) : Prop := (q : Int) ∣ a - b
section CG
variable {q : Nat} {a b c d : Int}
theorem cg.rfl' : cg q a a := ⟨0, by simp⟩
theorem cg.of (h : a = b) : cg q a b := h ▸ cg.rfl'
theorem cg.symm (h : cg q a b) : cg q b a := by
  obtain ⟨k, hk⟩ := h
  exact ⟨-k, by rw [Int.mul_neg, ← hk]; omega⟩
theorem cg.trans (h : cg q a b) (h2 : cg q b c) : cg q a c := by
  have := Int.dvd_add h h2
  have e : a - b + (b - c) = a - c := by omega
  rw [e] at this; exact this
theorem cg.add (h : cg q a b) (h2 : cg q c d) : cg q (a + c) (b + d) := by
  have := Int.dvd_add h h2
  have e : a - b + (c - d) = a + c - (b + d) := by omega
  rw [e] at this; exact this
theorem cg.sub (h : cg q a b) (h2 : cg q c d) : cg q (a - c) (b - d) := by
  have := Int.dvd_sub h h2
  have e : a - b - (c - d) = a - c - (b - d) := by omega
  rw [e] at this; exact this
theorem cg.mul (h : cg q a b) (h2 : cg q c d) : cg q (a * c) (b * d) := by
  have := Int.dvd_add (Int.dvd_mul_of_dvd_right (b := a) h2) (Int.dvd_mul_of_dvd_left (c := d) h)
  have e : a * (c - d) + (a - b) * d = a * c - b * d := by rw [Int.mul_sub, Int.sub_mul]; omega
  rw [e] at this; exact this
theorem cg_mod (x : Nat) : cg q ((x % q : Nat) : Int) (x : Int) := mod_dvd q x
theorem cg_q : cg q (q : Int) 0 := ⟨1, by simp⟩
theorem cg_eq {x y : Nat} (hx : x < q) (hy : y < q) (h : cg q (x : Int) (y : Int)) : x = y := by
  have h1 : (x : Int) % (q : Int) = (y : Int) % (q : Int) := Int.emod_eq_emod_iff_emod_sub_eq_zero.mpr (Int.emod_eq_zero_of_dvd h)
  rw [← Int.natCast_emod, ← Int.natCast_emod, Nat.mod_eq_of_lt hx, Nat.mod_eq_of_lt hy] at h1
  omega
theorem cg0 : cg q a 0 ↔ (q : Int) ∣ a := by unfold cg; rw [Int.sub_zero]
theorem cg_iS {f g : Nat → Int} : ∀ n, (∀ k, k < n → cg q (f k) (g k)) → cg q (iS f n) (iS g n)
  | 0, _ => cg.rfl'
  | n + 1, h => (cg_iS n (fun k hk => h k (by omega))).add (h n (by omega))
end CG
theorem iS_mulr (c : Int) (f : Nat → Int) (n : Nat) : iS (fun k => f k * c) n = iS f n * c := by
  rw [Int.mul_comm, ← iS_mul]
  exact iS_congr n (fun k _ => Int.mul_comm _ _)
theorem lc_cg {q n : Nat} {E : Nat → Nat → Nat} {x y : Nat → Int} (h : ∀ l, l < n → cg q (x l) (y l)) (k : Nat) : cg q (lc n E x k) (lc n E y k) :=
  cg_iS n (fun l hl => cg.rfl'.mul (h l hl))
theorem lc_add {n : Nat} {E : Nat → Nat → Nat} {x y : Nat → Int} (k : Nat) : lc n E (fun l => x l + y l) k = lc n E x k + lc n E y k := by
  unfold lc
  rw [← iS_add]
  exact iS_congr n (fun l _ => Int.mul_add _ _ _)
theorem lc_smul {n : Nat} {E : Nat → Nat → Nat} {c : Int} {y : Nat → Int} (k : Nat) : lc n E (fun l => c * y l) k = c * lc n E y k := by
  unfold lc
  rw [← iS_mul]
  exact iS_congr n (fun l _ => by rw [← Int.mul_assoc, Int.mul_comm (E l k : Int) c, Int.mul_assoc])
/-- what takeApart leaves, over the integers: a linear thing -/
def rho (hd iv : Nat → Nat) (RW : Nat → Nat → Nat) (v : Nat → Int) : Nat → Nat → Int
  | 0 => v
  | r + 1 => fun k => rho hd iv RW v r k - rho hd iv RW v r (hd r) * ((iv r : Int) * (RW r k : Int))
theorem rho_lin {hd iv : Nat → Nat} {RW : Nat → Nat → Nat} {n : Nat} {x : Nat → Int} {V : Nat → Nat → Int} : ∀ r k, rho hd iv RW (fun k => iS (fun i => V i k * x i) n) r k = iS (fun i => rho hd iv RW (V i) r k * x i) n
  | 0, _ => rfl
  | r + 1, k => by
    simp only [rho]
    rw [rho_lin r k, rho_lin r (hd r), ← iS_mulr, iS_sub]
    refine iS_congr n (fun i _ => ?_)
    rw [Int.sub_mul, Int.mul_assoc, Int.mul_assoc, Int.mul_comm (x i)]
theorem rho_cg {q n : Nat} {hd iv : Nat → Nat} {RW : Nat → Nat → Nat} {v w : Nat → Int} (h : ∀ k, k < n → cg q (v k) (w k)) : ∀ R, (∀ r, r < R → hd r < n) → ∀ k, k < n → cg q (rho hd iv RW v R k) (rho hd iv RW w R k)
  | 0, _, k, hk => h k hk
  | r + 1, hh, k, hk => by
    have i := rho_cg h r (fun s hs => hh s (by omega)) (iv := iv) (RW := RW)
    exact (i k hk).sub ((i (hd r) (hh r (by omega))).mul cg.rfl')
theorem rho_congr {hd iv hd' iv' : Nat → Nat} {RW RW' : Nat → Nat → Nat} {v : Nat → Int} : ∀ R, (∀ r, r < R → hd r = hd' r ∧ iv r = iv' r ∧ RW r = RW' r) → rho hd iv RW v R = rho hd' iv' RW' v R
  | 0, _ => rfl
  | r + 1, h => by
    obtain ⟨h1, h2, h3⟩ := h r (by omega)
    simp only [rho]
    rw [rho_congr r (fun s hs => h s (by omega)), h1, h2, h3]
/-- the inverses that takeApart looks up -/
def ivR (q : Nat) (RW : Nat → Nat → Nat) (hd : Nat → Nat) : Nat → Nat := fun r => ivq q (RW r (hd r)) q 1
theorem tk_c {q a f w : Nat} (hq : 0 < q) {g : Int} (hf : cg q ((f : Nat) : Int) g) (h : f < q) : cg q (((a + (q - f) * w) % q : Nat) : Int) ((a : Int) - g * (w : Int)) := by
  refine (cg_mod _).trans ?_
  rw [Int.natCast_add, Int.natCast_mul, Int.natCast_sub (Nat.le_of_lt h)]
  have h1 : cg q (((q : Int) - (f : Int)) * (w : Int)) ((0 - g) * (w : Int)) := (cg_q.sub hf).mul cg.rfl'
  have h2 := (cg.rfl' (q := q) (a := (a : Int))).add h1
  have e : (a : Int) + (0 - g) * (w : Int) = (a : Int) - g * (w : Int) := by rw [Int.sub_mul]; omega
  rw [e] at h2
  exact h2
theorem tk_f {q a b : Nat} {x : Int} (h : cg q (a : Int) x) : cg q ((a * b % q : Nat) : Int) (x * (b : Int)) := by
  refine (cg_mod _).trans ?_
  rw [Int.natCast_mul]
  exact h.mul cg.rfl'
theorem tk_rho {n q : Nat} (hq : 0 < q) {RW PS : Nat → Nat → Nat} {hd : Nat → Nat} {z : (Nat → Nat) × (Nat → Nat)} : ∀ R, (∀ r, r < R → hd r < n) → ∀ k, k < n → cg q ((tkA n q RW PS hd z R).1 k : Int) (rho hd (ivR q RW hd) RW (fun k => (z.1 k : Int)) R k)
  | 0, _, k, _ => cg.rfl'
  | r + 1, hh, k, hk => by
    have i := tk_rho hq r (fun s hs => hh s (by omega)) (RW := RW) (PS := PS) (z := z)
    simp only [tkA, tkS, rho]
    have h1 := tk_f (b := ivq q (RW r (hd r)) q 1) (i (hd r) (hh r (by omega)))
    refine (tk_c hq h1 (Nat.mod_lt _ hq)).trans ?_
    refine (i k hk).sub ?_
    rw [Int.mul_assoc]
    exact cg.rfl'
theorem tk_lc {n q : Nat} (hq : 0 < q) {E RW PS : Nat → Nat → Nat} {hd : Nat → Nat} {z : (Nat → Nat) × (Nat → Nat)} : ∀ R, (∀ r, r < R → ∀ k, k < n → cg q (RW r k : Int) (lc n E (fun l => (PS r l : Int)) k)) → ∀ k, k < n → cg q (((tkA n q RW PS hd z R).1 k : Int) + lc n E (fun l => ((tkA n q RW PS hd z R).2 l : Int)) k) ((z.1 k : Int) + lc n E (fun l => (z.2 l : Int)) k)
  | 0, _, k, _ => cg.rfl'
  | r + 1, hh, k, hk => by
    have i := tk_lc hq r (fun s hs => hh s (by omega)) k hk (hd := hd) (z := z)
    refine cg.trans ?_ i
    simp only [tkA, tkS]
    generalize hf : (tkA n q RW PS hd z r).1 (hd r) * ivq q (RW r (hd r)) q 1 % q = f
    have hfq : f < q := hf ▸ Nat.mod_lt _ hq
    have h1 := tk_c (a := (tkA n q RW PS hd z r).1 k) (w := RW r k) hq (cg.rfl' (q := q) (a := (f : Int))) hfq
    have h2 : cg q (lc n E (fun l => ((((tkA n q RW PS hd z r).2 l + f * PS r l) % q : Nat) : Int)) k) (lc n E (fun l => ((tkA n q RW PS hd z r).2 l : Int)) k + (f : Int) * (RW r k : Int)) := by
      have h3 : cg q (lc n E (fun l => ((((tkA n q RW PS hd z r).2 l + f * PS r l) % q : Nat) : Int)) k) (lc n E (fun l => ((tkA n q RW PS hd z r).2 l : Int) + (f : Int) * (PS r l : Int)) k) := lc_cg (fun l _ => (cg_mod _).trans (cg.of (by rw [Int.natCast_add, Int.natCast_mul]))) k
      refine h3.trans ?_
      rw [lc_add, lc_smul]
      exact cg.rfl'.add (cg.rfl'.mul (hh r (by omega) k hk).symm)
    refine (h1.add h2).trans (cg.of ?_)
    omega
theorem tk_sup {n q : Nat} {RW PS : Nat → Nat → Nat} {hd : Nat → Nat} {z : (Nat → Nat) × (Nat → Nat)} {k : Nat} (h0 : z.2 k = 0) : ∀ R, (∀ r, r < R → PS r k = 0) → (tkA n q RW PS hd z R).2 k = 0
  | 0, _ => h0
  | r + 1, hh => by
    simp only [tkA, tkS]
    rw [tk_sup h0 r (fun s hs => hh s (by omega)), hh r (by omega), Nat.mul_zero, Nat.add_zero, Nat.zero_mod]
/-- the lamp j is FREE, in the reference -/
def frE (n q : Nat) (E : Nat → Nat → Nat) (j : Nat) : Prop := lft (knT n q E j (knN n q E j)).1 n 0 = none
/-- what holds of what is known, once the lamps 0 .. l - 1 were looked at -/
def refI (n q : Nat) (E : Nat → Nat → Nat) (l : Nat) (c : kT) : Prop :=
  (∀ r, r < c.1 → ∀ k, k < n → cg q (c.2.1 r k : Int) (lc n E (fun m => (c.2.2.1 r m : Int)) k)) ∧
  (∀ r, r < c.1 → ∀ k, (l ≤ k ∨ frE n q E k) → c.2.2.1 r k = 0) ∧
  (∀ i, i < l → ∀ k, k < n → cg q (rho c.2.2.2.1 (ivR q c.2.1 c.2.2.2.1) c.2.1 (fun k => (E i k : Int)) c.1 k) 0) ∧
  ∀ j, j < l → frE n q E j → (knN n q E j).2.2.2.2.1 < c.2.2.2.2.1 ∧ c.2.2.2.2.2 (knN n q E j).2.2.2.2.1 j = 1 ∧ (∀ k, k < n → cg q (lc n E (fun m => (c.2.2.2.2.2 (knN n q E j).2.2.2.2.1 m : Int)) k) 0) ∧ ∀ k, k ≠ j → (j < k ∨ frE n q E k) → c.2.2.2.2.2 (knN n q E j).2.2.2.2.1 k = 0
theorem iS_delta {f : Nat → Int} {l : Nat} : ∀ n, iS (fun m => f m * (if m = l then 1 else 0)) n = if l < n then f l else 0
  | 0 => by rw [if_neg (Nat.not_lt_zero l)]; rfl
  | n + 1 => by
    simp only [iS]
    rw [iS_delta n]
    by_cases e : n = l
    · rw [if_pos e, if_neg (by omega), if_pos (by omega), e]; simp
    · rw [if_neg e]
      by_cases e2 : l < n
      · rw [if_pos e2, if_pos (by omega)]; simp
      · rw [if_neg e2, if_neg (by omega)]; simp
theorem lc_zero {n : Nat} {E : Nat → Nat → Nat} (k : Nat) : lc n E (fun _ => ((0 : Nat) : Int)) k = 0 := by
  unfold lc
  rw [iS_congr n (g := fun _ => 0) (fun _ _ => by simp), iS_zero]
theorem knP_lc {n q : Nat} {E : Nat → Nat → Nat} {l : Nat} {c : kT} (hq : 2 ≤ q) (hl : l < n) (hE : ∀ k, k < n → E l k < q) (h1 : ∀ r, r < c.1 → ∀ k, k < n → cg q (c.2.1 r k : Int) (lc n E (fun m => (c.2.2.1 r m : Int)) k)) (h2 : ∀ r, r < c.1 → c.2.2.1 r l = 0) : ∀ k, k < n → cg q ((knT n q E l c).1 k : Int) (lc n E (fun m => (knP n q E l c m : Int)) k) := by
  intro k hk
  have ht := tk_lc (n := n) (q := q) (E := E) (by omega) (hd := c.2.2.2.1) (z := (E l, fun _ => 0)) c.1 h1 k hk
  have hs := tk_sup (n := n) (q := q) (RW := c.2.1) (hd := c.2.2.2.1) (z := (E l, fun _ => 0)) (k := l) rfl c.1 h2
  have hb := (knT_lt (c := c) hq hE).2
  change cg q (((knT n q E l c).1 k : Int) + lc n E (fun m => ((knT n q E l c).2 m : Int)) k) _ at ht
  change (knT n q E l c).2 l = 0 at hs
  unfold knP
  generalize knT n q E l c = t at ht hs hb ⊢
  have h3 : ∀ m, m < n → cg q ((if m = l then 1 else (q - t.2 m) % q : Nat) : Int) ((if m = l then 1 else 0) + -1 * (t.2 m : Int)) := by
    intro m hm
    by_cases e : m = l
    · rw [if_pos e, if_pos e, e, hs]
      exact cg.rfl'
    · rw [if_neg e, if_neg e]
      refine (cg_mod _).trans ?_
      rw [Int.natCast_sub (Nat.le_of_lt (hb m hm))]
      have := cg_q.sub (cg.rfl' (q := q) (a := (t.2 m : Int)))
      exact this.trans (cg.of (by omega))
  refine cg.trans ?_ (lc_cg h3 k).symm
  rw [lc_add, lc_smul]
  have h4 : lc n E (fun m => if m = l then 1 else 0) k = (E l k : Int) := by
    unfold lc
    rw [iS_delta, if_pos hl]
  rw [h4]
  change cg q _ ((E l k : Int) + lc n E (fun _ => ((0 : Nat) : Int)) k) at ht
  rw [lc_zero, Int.add_zero] at ht
  have h5 := ht.sub (cg.rfl' (q := q) (a := lc n E (fun m => (t.2 m : Int)) k))
  rw [Int.add_sub_cancel] at h5
  exact h5.trans (cg.of (by omega))
theorem knP_sup {n q : Nat} {E : Nat → Nat → Nat} {l : Nat} {c : kT} {k : Nat} (hkl : k ≠ l) (h2 : ∀ r, r < c.1 → c.2.2.1 r k = 0) : knP n q E l c k = 0 := by
  have hs : (knT n q E l c).2 k = 0 := tk_sup (n := n) (q := q) (RW := c.2.1) (hd := c.2.2.2.1) (z := (E l, fun _ => 0)) (k := k) rfl c.1 h2
  unfold knP
  rw [if_neg hkl, hs, Nat.sub_zero, Nat.mod_self]
theorem knS_refI {n q : Nat} {E : Nat → Nat → Nat} (hq : 2 ≤ q) (hi : hasInv q) {l : Nat} (hl : l < n) (hE : ∀ k, k < n → E l k < q) (hL : kLT n q (knN n q E l)) (h : refI n q E l (knN n q E l)) : refI n q E (l + 1) (knN n q E (l + 1)) := by
  show refI n q E (l + 1) (knS n q E l (knN n q E l))
  generalize hc : knN n q E l = c at hL h ⊢
  obtain ⟨g1, g2, g3, g4⟩ := h
  obtain ⟨k1, k2, k3, k4, k5⟩ := hL
  have hT := knP_lc (c := c) hq hl hE g1 (fun r hr => g2 r hr l (Or.inl (Nat.le_refl l)))
  have hR : ∀ k, k < n → cg q ((knT n q E l c).1 k : Int) (rho c.2.2.2.1 (ivR q c.2.1 c.2.2.2.1) c.2.1 (fun k => (E l k : Int)) c.1 k) := tk_rho (by omega) (z := (E l, fun _ => 0)) c.1 k1
  have hlt := (knT_lt (c := c) hq hE).1
  have hfr : frE n q E l ↔ lft (knT n q E l c).1 n 0 = none := by unfold frE; rw [hc]
  rcases hlf : lft (knT n q E l c).1 n 0 with _ | h0
  · have es : knS n q E l c = (c.1, c.2.1, c.2.2.1, c.2.2.2.1, c.2.2.2.2.1 + 1, va_up c.2.2.2.2.2 c.2.2.2.2.1 (knP n q E l c)) := by unfold knS; rw [hlf]
    rw [es]
    have hz := lft_none n 0 hlf
    refine ⟨g1, fun r hr k hk => g2 r hr k (hk.imp (by omega) id), fun i hi2 k hk => ?_, fun j hj hfj => ?_⟩
    · by_cases e : i = l
      · rw [e]
        refine (hR k hk).symm.trans ?_
        rw [hz k (by omega) (by omega)]
        exact cg.rfl'
      · exact g3 i (by omega) k hk
    · dsimp only
      by_cases e : j = l
      · rw [e, hc, up_at]
        refine ⟨by omega, by unfold knP; rw [if_pos rfl], fun k hk => (hT k hk).symm.trans (cg.of (by rw [hz k (by omega) (by omega)]; rfl)), fun k hk hk2 => knP_sup hk (fun r hr => g2 r hr k (hk2.imp (by omega) id))⟩
      · obtain ⟨f1, f2, f3, f4⟩ := g4 j (by omega) hfj
        rw [up_of _ _ (by omega)]
        exact ⟨by omega, f2, f3, f4⟩
  · have es : knS n q E l c = (c.1 + 1, va_up c.2.1 c.1 (knT n q E l c).1, va_up c.2.2.1 c.1 (knP n q E l c), va_up c.2.2.2.1 c.1 h0, c.2.2.2.2.1, c.2.2.2.2.2) := by unfold knS; rw [hlf]
    rw [es]
    obtain ⟨_, s2, s3, s4⟩ := lft_some n 0 hlf
    have hnf : ¬ frE n q E l := fun h => by rw [hfr, hlf] at h; cases h
    refine ⟨fun r hr k hk => ?_, fun r hr k hk => ?_, fun i hi2 k hk => ?_, fun j hj hfj => ?_⟩
    · dsimp only at hr ⊢
      by_cases e : r = c.1
      · rw [e, up_at, up_at]; exact hT k hk
      · rw [up_of _ _ e, up_of _ _ e]; exact g1 r (by omega) k hk
    · dsimp only at hr ⊢
      by_cases e : r = c.1
      · rw [e, up_at]
        have hkl : k ≠ l := fun h => by
          subst h
          exact hk.elim (by omega) hnf
        exact knP_sup hkl (fun r hr => g2 r hr k (hk.imp (by omega) id))
      · rw [up_of _ _ e]; exact g2 r (by omega) k (hk.imp (by omega) id)
    · dsimp only
      have hrc : ∀ v : Nat → Int, rho (va_up c.2.2.2.1 c.1 h0) (ivR q (va_up c.2.1 c.1 (knT n q E l c).1) (va_up c.2.2.2.1 c.1 h0)) (va_up c.2.1 c.1 (knT n q E l c).1) v c.1 = rho c.2.2.2.1 (ivR q c.2.1 c.2.2.2.1) c.2.1 v c.1 := fun v => rho_congr c.1 (fun r hr => by
        have e : r ≠ c.1 := by omega
        unfold ivR
        rw [up_of _ _ e, up_of _ _ e]
        exact ⟨rfl, rfl, rfl⟩)
      simp only [rho]
      rw [hrc, up_at, up_at]
      have hiv : ivR q (va_up c.2.1 c.1 (knT n q E l c).1) (va_up c.2.2.2.1 c.1 h0) c.1 = ivq q ((knT n q E l c).1 h0) q 1 := by unfold ivR; rw [up_at, up_at]
      rw [hiv]
      have h0n : h0 < n := by omega
      by_cases e : i = l
      · rw [e]
        have hv := ivq_model hi (Nat.pos_of_ne_zero s3) (hlt h0 h0n)
        generalize ivq q ((knT n q E l c).1 h0) q 1 = iv at hv ⊢
        have h1 : cg q (((knT n q E l c).1 h0 : Int) * (iv : Int)) 1 := by
          have := (cg_mod (q := q) ((knT n q E l c).1 h0 * iv)).symm
          rw [hv, Int.natCast_mul] at this
          exact this
        have h2 := ((hR k hk).symm).sub (((hR h0 h0n).symm).mul (cg.rfl' (q := q) (a := (iv : Int) * ((knT n q E l c).1 k : Int))))
        refine h2.trans ?_
        rw [← Int.mul_assoc]
        have h3 := (cg.rfl' (q := q) (a := ((knT n q E l c).1 k : Int))).sub (h1.mul (cg.rfl' (q := q) (a := ((knT n q E l c).1 k : Int))))
        refine h3.trans (cg.of ?_)
        rw [Int.one_mul, Int.sub_self]
      · have h2 := (g3 i (by omega) k hk).sub ((g3 i (by omega) h0 h0n).mul (cg.rfl' (q := q) (a := (ivq q ((knT n q E l c).1 h0) q 1 : Int) * ((knT n q E l c).1 k : Int))))
        refine h2.trans (cg.of ?_)
        rw [Int.zero_mul, Int.sub_zero]
    · dsimp only
      have hjl : j ≠ l := fun h => hnf (h ▸ hfj)
      exact g4 j (by omega) hfj
theorem knN_refI {n q : Nat} {E : Nat → Nat → Nat} (hq : 2 ≤ q) (hi : hasInv q) (hE : ∀ l, l < n → ∀ k, k < n → E l k < q) : ∀ l, l ≤ n → refI n q E l (knN n q E l)
  | 0, _ => ⟨fun r hr => absurd hr (Nat.not_lt_zero r), fun r hr => absurd hr (Nat.not_lt_zero r), fun r hr => absurd hr (Nat.not_lt_zero r), fun r hr => absurd hr (Nat.not_lt_zero r)⟩
  | l + 1, hl => knS_refI hq hi (by omega) (hE l (by omega)) (knN_lt hq hi hE l (by omega)) (knN_refI hq hi hE l (by omega))
