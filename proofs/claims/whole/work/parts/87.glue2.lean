/-- class and reference stand alike -/
def lcI (n q : Nat) (gQ : Nat → Nat) (L : List Nat) (pl : Nat → Nat) (tm st wt : Nat → Nat) (wk sd : Bool) (e5 : E5) (le : Nat → Nat) (tot : Int32) (kn : Bool) (k8 : Nat × (Nat → Nat) × (Nat → Nat) × (Nat → Nat) × (Nat → Bool) × (Nat → Nat) × (Nat → Nat) × (Nat → Nat)) (jn ns : Nat → Bool) (sm wm : Nat → Nat) : Prop :=
  gmI n q tm st wt sm wm jn ns ∧ eqOK n e5.1 gQ L pl ∧ (wk = true → eqS n q tm st wt e5.1 gQ e5.2.1 e5.2.2.1 e5.2.2.2.1 e5.2.2.2.2) ∧ (sd = true → wk = true ∧ srOK n q gQ e5 le tot) ∧ (kn = true → kOK n (knN n q (eff jn ns) n) k8.1 k8.2.1 k8.2.2.1 k8.2.2.2.1 k8.2.2.2.2.2.2.2)
section GU
variable {n q : Nat} {tm st wt sm wm : Nat → Nat} {jn ns : Nat → Bool}
theorem eff_d (jn ns : Nat → Bool) (i : Nat) : eff jn ns i i = if ns i = true then 0 else 1 := by
  unfold eff
  rw [if_pos rfl]
theorem eff_n {jn ns : Nat → Bool} {i j : Nat} (h : ¬ i = j) : eff jn ns i j = if jn (30 * i + j) = true then 1 else 0 := by
  unfold eff
  rw [if_neg h]
theorem gm_up_join (hg : gmI n q tm st wt sm wm jn ns) (hn : n < 31) {a b : Nat} (ha : a < n) (hb : b < n) (hab : a ≠ b) {t1 : Nat → Nat} (ht : ∀ c, t1 c = if c = b then tm b ||| 2 ^ a else if c = a then tm a ||| 2 ^ b else tm c) : gmI n q t1 st wt sm wm (va_up (va_up jn (30 * a + b) true) (30 * b + a) true) ns := by
  obtain ⟨g1, g2, g3, g4, g5, g6, g7⟩ := hg
  have effs : ∀ i j, i < n → j < n → eff (va_up (va_up jn (30 * a + b) true) (30 * b + a) true) ns i j = if (i = a ∧ j = b) ∨ (i = b ∧ j = a) then 1 else eff jn ns i j := by
    intro i j hi hj
    by_cases e : i = j
    · subst e
      rw [if_neg (show ¬ ((i = a ∧ i = b) ∨ (i = b ∧ i = a)) by omega), eff_d, eff_d]
    · by_cases e1 : (i = a ∧ j = b) ∨ (i = b ∧ j = a)
      · have e2 : va_up (va_up jn (30 * a + b) true) (30 * b + a) true (30 * i + j) = true := by
          rcases e1 with ⟨rfl, rfl⟩ | ⟨rfl, rfl⟩
          · rw [up_of _ _ (by omega), up_at]
          · rw [up_at]
        rw [if_pos e1, eff_n e, e2, if_pos rfl]
      · rw [if_neg e1, eff_n e, eff_n e, up_of _ _ (by omega), up_of _ _ (by omega)]
  refine ⟨fun j hj => ?_, g2, g3, g4, g5, fun i hi j hj => ?_, fun i hi j hj => ?_⟩
  · rw [ht j]
    split
    · exact or_lt (g1 b hb) (by omega)
    · split
      · exact or_lt (g1 a ha) (by omega)
      · exact g1 j hj
  · rw [effs j i hj hi, ht j]
    by_cases e1 : j = b
    · subst e1
      rw [if_pos rfl, bit_or]
      by_cases e2 : i = a
      · rw [if_pos e2, if_pos (Or.inr ⟨rfl, e2⟩)]
      · rw [if_neg e2, if_neg (by omega), g6 i hi j hj]
    · rw [if_neg e1]
      by_cases e3 : j = a
      · subst e3
        rw [if_pos rfl, bit_or]
        by_cases e2 : i = b
        · rw [if_pos e2, if_pos (Or.inl ⟨rfl, e2⟩)]
        · rw [if_neg e2, if_neg (by omega), g6 i hi j hj]
      · rw [if_neg e3, if_neg (by omega), g6 i hi j hj]
  · rw [effs i j hi hj, effs j i hj hi, g7 i hi j hj]
    by_cases e1 : (i = a ∧ j = b) ∨ (i = b ∧ j = a)
    · rw [if_pos e1, if_pos (by omega)]
    · rw [if_neg e1, if_neg (by omega)]
theorem gm_up_self (hg : gmI n q tm st wt sm wm jn ns) (hn : n < 31) {a : Nat} (ha : a < n) : gmI n q (va_up tm a (tm a ^^^ 2 ^ a)) st wt sm wm jn (va_up ns a (!(ns a))) := by
  obtain ⟨g1, g2, g3, g4, g5, g6, g7⟩ := hg
  have effs : ∀ i j, eff jn (va_up ns a (!(ns a))) i j = if i = a ∧ j = a then 1 - eff jn ns a a else eff jn ns i j := by
    intro i j
    by_cases e : i = j
    · subst e
      by_cases e1 : i = a
      · subst e1
        rw [if_pos ⟨rfl, rfl⟩, eff_d, eff_d, up_at]
        cases ns i <;> rfl
      · rw [if_neg (show ¬ (i = a ∧ i = a) from fun h => e1 h.1), eff_d, eff_d, up_of _ _ e1]
    · rw [if_neg (show ¬ (i = a ∧ j = a) from fun h => e (h.1.trans h.2.symm)), eff_n e, eff_n e]
  refine ⟨fun j hj => ?_, g2, g3, g4, g5, fun i hi j hj => ?_, fun i hi j hj => ?_⟩
  · by_cases e : j = a
    · subst e
      rw [up_at]
      exact xor_lt (g1 j hj) (by omega)
    · rw [up_of _ _ e]
      exact g1 j hj
  · rw [effs]
    by_cases e : j = a
    · subst e
      rw [up_at, bit_xor]
      by_cases e2 : i = j
      · subst e2
        rw [if_pos rfl, if_pos ⟨rfl, rfl⟩, g6 i hi i hi]
      · rw [if_neg e2, if_neg (fun h => e2 h.2), g6 i hi j hj]
    · rw [up_of _ _ e, if_neg (fun h => e h.1), g6 i hi j hj]
  · rw [effs, effs, g7 i hi j hj]
    by_cases e : i = a ∧ j = a
    · rw [if_pos e, if_pos ⟨e.2, e.1⟩]
    · rw [if_neg e, if_neg (fun h => e ⟨h.2, h.1⟩)]
theorem gm_up_st (hg : gmI n q tm st wt sm wm jn ns) {s1 m1 : Nat → Nat} (h1 : ∀ j, j < n → s1 j < q) (h2 : ∀ j, j < n → m1 j = s1 j) : gmI n q tm s1 wt m1 wm jn ns := ⟨hg.1, h1, hg.2.2.1, h2, hg.2.2.2.2⟩
theorem gm_up_wt (hg : gmI n q tm st wt sm wm jn ns) {s1 m1 : Nat → Nat} (h1 : ∀ j, j < n → s1 j < q) (h2 : ∀ j, j < n → m1 j = s1 j) : gmI n q tm st s1 sm m1 jn ns := ⟨hg.1, hg.2.1, h1, hg.2.2.2.1, h2, hg.2.2.2.2.2⟩
theorem up_both {f g : Nat → Nat} {j k : Nat} (hk : k < q) (h1 : ∀ j, j < n → f j < q) (h2 : ∀ j, j < n → g j = f j) : (∀ i, i < n → va_up f j k i < q) ∧ ∀ i, i < n → va_up g j k i = va_up f j k i := by
  refine ⟨fun i hi => ?_, fun i hi => ?_⟩
  · by_cases e : i = j
    · rw [e, up_at]; exact hk
    · rw [up_of _ _ e]; exact h1 i hi
  · by_cases e : i = j
    · rw [e, up_at, up_at]
    · rw [up_of _ _ e, up_of _ _ e]; exact h2 i hi
theorem apt_cg {f g f' g' : Nat → Nat} : ∀ n, (∀ j, j < n → f j = f' j) → (∀ j, j < n → g j = g' j) → apt f g n = apt f' g' n
  | 0, _, _ => rfl
  | n + 1, h1, h2 => by
    simp only [apt]
    rw [h1 n (by omega), h2 n (by omega), apt_cg n (fun j hj => h1 j (by omega)) (fun j hj => h2 j (by omega))]
end GU
section LCT
theorem lc_join {n q : Nat} {gQ : Nat → Nat} {L : List Nat} {pl : Nat → Nat} {tm st wt : Nat → Nat} {wk sd : Bool} {e5 : E5} {yS : (Nat → Nat) × (Nat → Nat) × (Nat → Nat) × Int32} {kn : Bool} {k8 : Nat × (Nat → Nat) × (Nat → Nat) × (Nat → Nat) × (Nat → Bool) × (Nat → Nat) × (Nat → Nat) × (Nat → Nat)} {jn ns : Nat → Bool} {sm wm : Nat → Nat} {oo : Nat → Int64} (hn : n < 31) (hq : 2 ≤ q) (hq7 : q ≤ 7) (hi : hasInv q) (hI : lcI n q gQ L pl tm st wt wk sd e5 yS.2.1 yS.2.2.2 kn k8 jn ns sm wm) {x y : Int32} {z3 z4 : Int32} {u3 : ((Nat → Nat) × Bool × Bool) × (Nat → Int64)} {u4 : Bool × Bool × (Nat → Bool)} (h3 : (fun (z : Int32) (u : ((Nat → Nat) × Bool × Bool) × (Nat → Int64)) => ((((∃ j : Nat, j < n ∧ x = nI j) ∧ (∃ j : Nat, j < n ∧ y = nI j)) ∧ z = nI 0 ∧ ∃ r : Int32, (∃ a b : Nat, a < n ∧ b < n ∧ x = nI a ∧ y = nI b ∧ ((r = nI 1 ∧ a ≠ b ∧ tm a / 2 ^ b % 2 = 0 ∧ (∀ c, u.1.1 c = if c = b then tm b ||| 2 ^ a else if c = a then tm a ||| 2 ^ b else tm c) ∧ u.1.2 = (false, false)) ∨ (r = nI 0 ∧ (a = b ∨ tm a / 2 ^ b % 2 = 1) ∧ u.1 = (tm, wk, sd)))) ∧ u.2 0 = lbv r) ∨ (¬ ((∃ j : Nat, j < n ∧ x = nI j) ∧ (∃ j : Nat, j < n ∧ y = nI j)) ∧ z = nI 1 ∧ u = ((tm, wk, sd), oo)))) z3 u3) (h4 : (fun (z : Int32) (u : Bool × Bool × (Nat → Bool)) => ((inb n x = false ∨ inb n y = false) ∧ u = (true, kn, jn) ∧ z = nI 0) ∨ ∃ a b : Nat, a < n ∧ b < n ∧ x = nI a ∧ y = nI b ∧ u.1 = false ∧ (((a = b ∨ jn (30 * a + b) = true) ∧ u.2 = (kn, jn) ∧ z = nI 0) ∨ (a ≠ b ∧ jn (30 * a + b) = false ∧ u.2 = (false, va_up (va_up jn (30 * a + b) true) (30 * b + a) true) ∧ z = nI 1))) z4 u4) :
    z3 = bI u4.1 ∧ (z3 = nI 0 → u3.2 0 = lbv z4) ∧ lcI n q gQ L pl u3.1.1 st wt u3.1.2.1 u3.1.2.2 e5 yS.2.1 yS.2.2.2 u4.2.1 k8 u4.2.2 ns sm wm := by
  obtain ⟨hg, hE, hW, hS, hK⟩ := hI
  obtain ⟨⟨t1, w1, s1⟩, o1⟩ := u3
  obtain ⟨th1, kn1, jn1⟩ := u4
  dsimp only at h3 h4 ⊢
  rcases h3 with ⟨⟨⟨a, ha, rfl⟩, ⟨b, hb, rfl⟩⟩, rfl, r, ⟨a', b', ha', hb', ea, eb, hr⟩, h0⟩ | ⟨hno, rfl, hu⟩
  · obtain rfl : a = a' := (nI_eq (by omega) (by omega)).mp ea
    obtain rfl : b = b' := (nI_eq (by omega) (by omega)).mp eb
    rcases h4 with ⟨hb4 | hb4, -⟩ | ⟨a', b', ha', hb', ea, eb, rfl, h4⟩
    · rw [inb_nI ha (by omega)] at hb4; cases hb4
    · rw [inb_nI hb (by omega)] at hb4; cases hb4
    · obtain rfl : a = a' := (nI_eq (by omega) (by omega)).mp ea
      obtain rfl : b = b' := (nI_eq (by omega) (by omega)).mp eb
      have e1 := hg.2.2.2.2.2.1 b hb a ha
      rcases hr with ⟨rfl, hab, hr0, ht, hu⟩ | ⟨rfl, hor, hu⟩
      · cases hu
        rcases h4 with ⟨h4a, -, -⟩ | ⟨-, h4b, hu4, rfl⟩
        · exfalso
          rcases h4a with h | h
          · exact hab h
          · unfold eff at e1
            rw [if_neg hab, h, if_pos rfl] at e1
            omega
        · cases hu4
          exact ⟨rfl, fun _ => h0, gm_up_join hg hn ha hb hab ht, hE, (fun h => by cases h), (fun h => by cases h), (fun h => by cases h)⟩
      · cases hu
        rcases h4 with ⟨h4a, hu4, rfl⟩ | ⟨hab, h4b, hu4, rfl⟩
        · cases hu4
          exact ⟨rfl, fun _ => h0, hg, hE, hW, hS, hK⟩
        · exfalso
          rcases hor with h | h
          · exact hab h
          · unfold eff at e1
            rw [if_neg hab, h4b, if_neg (by decide)] at e1
            omega
  · cases hu
    rcases h4 with ⟨hb4, hu4, rfl⟩ | ⟨a', b', ha', hb', ea, eb, -, -⟩
    · cases hu4
      exact ⟨rfl, fun h => absurd h (by decide), hg, hE, hW, hS, hK⟩
    · exact absurd ⟨⟨a', ha', ea⟩, ⟨b', hb', eb⟩⟩ hno
theorem lc_self {n q : Nat} {gQ : Nat → Nat} {L : List Nat} {pl : Nat → Nat} {tm st wt : Nat → Nat} {wk sd : Bool} {e5 : E5} {yS : (Nat → Nat) × (Nat → Nat) × (Nat → Nat) × Int32} {kn : Bool} {k8 : Nat × (Nat → Nat) × (Nat → Nat) × (Nat → Nat) × (Nat → Bool) × (Nat → Nat) × (Nat → Nat) × (Nat → Nat)} {jn ns : Nat → Bool} {sm wm : Nat → Nat} {oo : Nat → Int64} (hn : n < 31) (hq : 2 ≤ q) (hq7 : q ≤ 7) (hi : hasInv q) (hI : lcI n q gQ L pl tm st wt wk sd e5 yS.2.1 yS.2.2.2 kn k8 jn ns sm wm) {x : Int32} {on : Bool} {z3 z4 : Int32} {u3 : ((Nat → Nat) × Bool × Bool) × (Nat → Int64)} {u4 : Bool × Bool × (Nat → Bool)} (h3 : (fun (z : Int32) (u : ((Nat → Nat) × Bool × Bool) × (Nat → Int64)) => (((∃ j : Nat, j < n ∧ x = nI j) ∧ z = nI 0 ∧ ∃ r : Int32, (∃ a : Nat, a < n ∧ x = nI a ∧ ((r = nI 1 ∧ decide (tm a / 2 ^ a % 2 = 1) ≠ on ∧ u.1 = (va_up tm a (tm a ^^^ 2 ^ a), false, false)) ∨ (r = nI 0 ∧ decide (tm a / 2 ^ a % 2 = 1) = on ∧ u.1 = (tm, wk, sd)))) ∧ u.2 0 = lbv r) ∨ (¬ (∃ j : Nat, j < n ∧ x = nI j) ∧ z = nI 1 ∧ u = ((tm, wk, sd), oo)))) z3 u3) (h4 : (fun (z : Int32) (u : Bool × Bool × (Nat → Bool)) => (inb n x = false ∧ u = (true, kn, ns) ∧ z = nI 0) ∨ ∃ j : Nat, j < n ∧ x = nI j ∧ u.1 = false ∧ ((ns j ≠ on ∧ z = nI 0 ∧ u.2 = (kn, ns)) ∨ (ns j = on ∧ z = nI 1 ∧ u.2 = (false, va_up ns j (!on))))) z4 u4) :
    z3 = bI u4.1 ∧ (z3 = nI 0 → u3.2 0 = lbv z4) ∧ lcI n q gQ L pl u3.1.1 st wt u3.1.2.1 u3.1.2.2 e5 yS.2.1 yS.2.2.2 u4.2.1 k8 jn u4.2.2 sm wm := by
  obtain ⟨hg, hE, hW, hS, hK⟩ := hI
  obtain ⟨⟨t1, w1, s1⟩, o1⟩ := u3
  obtain ⟨th1, kn1, ns1⟩ := u4
  dsimp only at h3 h4 ⊢
  rcases h3 with ⟨⟨j, hj, rfl⟩, rfl, r, ⟨a', ha', ea, hr⟩, h0⟩ | ⟨hno, rfl, hu⟩
  · obtain rfl : j = a' := (nI_eq (by omega) (by omega)).mp ea
    rcases h4 with ⟨hb4, -⟩ | ⟨a', ha', ea, rfl, h4⟩
    · rw [inb_nI hj (by omega)] at hb4; cases hb4
    · obtain rfl : j = a' := (nI_eq (by omega) (by omega)).mp ea
      have e2 : decide (tm j / 2 ^ j % 2 = 1) = !(ns j) := by
        rw [hg.2.2.2.2.2.1 j hj j hj]
        unfold eff
        rw [if_pos rfl]
        cases ns j <;> rfl
      rw [e2] at hr
      rcases hr with ⟨rfl, hr0, hu⟩ | ⟨rfl, hr0, hu⟩
      · cases hu
        rcases h4 with ⟨h4a, -, -⟩ | ⟨h4a, rfl, hu4⟩
        · exfalso
          revert hr0 h4a
          cases ns j <;> cases on <;> simp
        · cases hu4
          rw [← h4a]
          exact ⟨rfl, fun _ => h0, gm_up_self hg hn hj, hE, (fun h => by cases h), (fun h => by cases h), (fun h => by cases h)⟩
      · cases hu
        rcases h4 with ⟨h4a, rfl, hu4⟩ | ⟨h4a, -, -⟩
        · cases hu4
          exact ⟨rfl, fun _ => h0, hg, hE, hW, hS, hK⟩
        · exfalso
          revert hr0 h4a
          cases ns j <;> cases on <;> simp
  · cases hu
    rcases h4 with ⟨hb4, hu4, rfl⟩ | ⟨j, hj, ej, -, -⟩
    · cases hu4
      exact ⟨rfl, fun h => absurd h (by decide), hg, hE, hW, hS, hK⟩
    · exact absurd ⟨j, hj, ej⟩ hno
theorem lc_set {n q : Nat} {gQ : Nat → Nat} {L : List Nat} {pl : Nat → Nat} {tm st wt : Nat → Nat} {wk sd : Bool} {e5 : E5} {yS : (Nat → Nat) × (Nat → Nat) × (Nat → Nat) × Int32} {kn : Bool} {k8 : Nat × (Nat → Nat) × (Nat → Nat) × (Nat → Nat) × (Nat → Bool) × (Nat → Nat) × (Nat → Nat) × (Nat → Nat)} {jn ns : Nat → Bool} {sm wm : Nat → Nat} {oo : Nat → Int64} (hn : n < 31) (hq : 2 ≤ q) (hq7 : q ≤ 7) (hi : hasInv q) (hI : lcI n q gQ L pl tm st wt wk sd e5 yS.2.1 yS.2.2.2 kn k8 jn ns sm wm) {x v : Int32} {z3 z4 : Int32} {u3 : ((Nat → Nat) × Bool × Bool) × (Nat → Int64)} {u4 : Bool × (Nat → Nat)} (h3 : (fun (z : Int32) (u : ((Nat → Nat) × Bool × Bool) × (Nat → Int64)) => (((∃ j : Nat, j < n ∧ x = nI j) ∧ z = nI 0 ∧ ∃ r : Int32, ((r = nI 1 ∧ ∃ j k : Nat, j < n ∧ k < q ∧ x = nI j ∧ v = nI k ∧ u.1 = (va_up st j k, false, false)) ∨ (r = nI 0 ∧ (∀ k : Nat, k < q → v ≠ nI k) ∧ u.1 = (st, wk, sd))) ∧ u.2 0 = lbv r) ∨ (¬ (∃ j : Nat, j < n ∧ x = nI j) ∧ z = nI 1 ∧ u = ((st, wk, sd), oo)))) z3 u3) (h4 : (fun (z : Int32) (u : Bool × (Nat → Nat)) => (inb n x = false ∧ u = (true, sm) ∧ z = nI 0) ∨ ∃ j : Nat, j < n ∧ x = nI j ∧ u.1 = false ∧ ((inb q v = false ∧ z = nI 0 ∧ u.2 = sm) ∨ ∃ k : Nat, k < q ∧ v = nI k ∧ z = nI 1 ∧ u.2 = va_up sm j k)) z4 u4) :
    z3 = bI u4.1 ∧ (z3 = nI 0 → u3.2 0 = lbv z4) ∧ lcI n q gQ L pl tm u3.1.1 wt u3.1.2.1 u3.1.2.2 e5 yS.2.1 yS.2.2.2 kn k8 jn ns u4.2 wm := by
  obtain ⟨hg, hE, hW, hS, hK⟩ := hI
  obtain ⟨⟨t1, w1, s1⟩, o1⟩ := u3
  obtain ⟨th1, m1⟩ := u4
  dsimp only at h3 h4 ⊢
  rcases h3 with ⟨⟨j, hj, rfl⟩, rfl, r, hr, h0⟩ | ⟨hno, rfl, hu⟩
  · rcases h4 with ⟨hb4, -⟩ | ⟨a', ha', ea, rfl, h4⟩
    · rw [inb_nI hj (by omega)] at hb4; cases hb4
    · obtain rfl : j = a' := (nI_eq (by omega) (by omega)).mp ea
      rcases hr with ⟨rfl, j', k, hj', hk, ej, rfl, hu⟩ | ⟨rfl, hr0, hu⟩
      · obtain rfl : j = j' := (nI_eq (by omega) (by omega)).mp ej
        cases hu
        rcases h4 with ⟨h4a, -, -⟩ | ⟨k', hk', ek, rfl, rfl⟩
        · rw [inb_nI hk (by omega)] at h4a; cases h4a
        · obtain rfl : k = k' := (nI_eq (by omega) (by omega)).mp ek
          have hb := up_both (j := j) hk hg.2.1 hg.2.2.2.1
          exact ⟨rfl, fun _ => h0, gm_up_st hg hb.1 hb.2, hE, (fun h => by cases h), (fun h => by cases h), hK⟩
      · cases hu
        rcases h4 with ⟨h4a, rfl, rfl⟩ | ⟨k', hk', ek, -, -⟩
        · exact ⟨rfl, fun _ => h0, hg, hE, hW, hS, hK⟩
        · exact absurd ek (hr0 k' hk')
  · cases hu
    rcases h4 with ⟨hb4, hu4, rfl⟩ | ⟨j, hj, ej, -, -⟩
    · cases hu4
      exact ⟨rfl, fun h => absurd h (by decide), hg, hE, hW, hS, hK⟩
    · exact absurd ⟨j, hj, ej⟩ hno
theorem lc_want {n q : Nat} {gQ : Nat → Nat} {L : List Nat} {pl : Nat → Nat} {tm st wt : Nat → Nat} {wk sd : Bool} {e5 : E5} {yS : (Nat → Nat) × (Nat → Nat) × (Nat → Nat) × Int32} {kn : Bool} {k8 : Nat × (Nat → Nat) × (Nat → Nat) × (Nat → Nat) × (Nat → Bool) × (Nat → Nat) × (Nat → Nat) × (Nat → Nat)} {jn ns : Nat → Bool} {sm wm : Nat → Nat} {oo : Nat → Int64} (hn : n < 31) (hq : 2 ≤ q) (hq7 : q ≤ 7) (hi : hasInv q) (hI : lcI n q gQ L pl tm st wt wk sd e5 yS.2.1 yS.2.2.2 kn k8 jn ns sm wm) {x v : Int32} {z3 z4 : Int32} {u3 : ((Nat → Nat) × Bool × Bool) × (Nat → Int64)} {u4 : Bool × (Nat → Nat)} (h3 : (fun (z : Int32) (u : ((Nat → Nat) × Bool × Bool) × (Nat → Int64)) => (((∃ j : Nat, j < n ∧ x = nI j) ∧ z = nI 0 ∧ ∃ r : Int32, ((r = nI 1 ∧ ∃ j k : Nat, j < n ∧ k < q ∧ x = nI j ∧ v = nI k ∧ u.1 = (va_up wt j k, false, false)) ∨ (r = nI 0 ∧ (∀ k : Nat, k < q → v ≠ nI k) ∧ u.1 = (wt, wk, sd))) ∧ u.2 0 = lbv r) ∨ (¬ (∃ j : Nat, j < n ∧ x = nI j) ∧ z = nI 1 ∧ u = ((wt, wk, sd), oo)))) z3 u3) (h4 : (fun (z : Int32) (u : Bool × (Nat → Nat)) => (inb n x = false ∧ u = (true, wm) ∧ z = nI 0) ∨ ∃ j : Nat, j < n ∧ x = nI j ∧ u.1 = false ∧ ((inb q v = false ∧ z = nI 0 ∧ u.2 = wm) ∨ ∃ k : Nat, k < q ∧ v = nI k ∧ z = nI 1 ∧ u.2 = va_up wm j k)) z4 u4) :
    z3 = bI u4.1 ∧ (z3 = nI 0 → u3.2 0 = lbv z4) ∧ lcI n q gQ L pl tm st u3.1.1 u3.1.2.1 u3.1.2.2 e5 yS.2.1 yS.2.2.2 kn k8 jn ns sm u4.2 := by
  obtain ⟨hg, hE, hW, hS, hK⟩ := hI
  obtain ⟨⟨t1, w1, s1⟩, o1⟩ := u3
  obtain ⟨th1, m1⟩ := u4
  dsimp only at h3 h4 ⊢
  rcases h3 with ⟨⟨j, hj, rfl⟩, rfl, r, hr, h0⟩ | ⟨hno, rfl, hu⟩
  · rcases h4 with ⟨hb4, -⟩ | ⟨a', ha', ea, rfl, h4⟩
    · rw [inb_nI hj (by omega)] at hb4; cases hb4
    · obtain rfl : j = a' := (nI_eq (by omega) (by omega)).mp ea
      rcases hr with ⟨rfl, j', k, hj', hk, ej, rfl, hu⟩ | ⟨rfl, hr0, hu⟩
      · obtain rfl : j = j' := (nI_eq (by omega) (by omega)).mp ej
        cases hu
        rcases h4 with ⟨h4a, -, -⟩ | ⟨k', hk', ek, rfl, rfl⟩
        · rw [inb_nI hk (by omega)] at h4a; cases h4a
        · obtain rfl : k = k' := (nI_eq (by omega) (by omega)).mp ek
          have hb := up_both (j := j) hk hg.2.2.1 hg.2.2.2.2.1
          exact ⟨rfl, fun _ => h0, gm_up_wt hg hb.1 hb.2, hE, (fun h => by cases h), (fun h => by cases h), hK⟩
      · cases hu
        rcases h4 with ⟨h4a, rfl, rfl⟩ | ⟨k', hk', ek, -, -⟩
        · exact ⟨rfl, fun _ => h0, hg, hE, hW, hS, hK⟩
        · exact absurd ek (hr0 k' hk')
  · cases hu
    rcases h4 with ⟨hb4, hu4, rfl⟩ | ⟨j, hj, ej, -, -⟩
    · cases hu4
      exact ⟨rfl, fun h => absurd h (by decide), hg, hE, hW, hS, hK⟩
    · exact absurd ⟨j, hj, ej⟩ hno
theorem lc_press {n q : Nat} {gQ : Nat → Nat} {L : List Nat} {pl : Nat → Nat} {tm st wt : Nat → Nat} {wk sd : Bool} {e5 : E5} {yS : (Nat → Nat) × (Nat → Nat) × (Nat → Nat) × Int32} {kn : Bool} {k8 : Nat × (Nat → Nat) × (Nat → Nat) × (Nat → Nat) × (Nat → Bool) × (Nat → Nat) × (Nat → Nat) × (Nat → Nat)} {jn ns : Nat → Bool} {sm wm : Nat → Nat} {oo : Nat → Int64} (hn : n < 31) (hq : 2 ≤ q) (hq7 : q ≤ 7) (hi : hasInv q) (hI : lcI n q gQ L pl tm st wt wk sd e5 yS.2.1 yS.2.2.2 kn k8 jn ns sm wm) {x v : Int32} {z3 z4 : Int32} {u3 : ((Nat → Nat) × Bool × Bool) × (Nat → Int64)} {u4 : Bool × (Nat → Nat)} (h3 : (fun (z : Int32) (u : ((Nat → Nat) × Bool × Bool) × (Nat → Int64)) => (((∃ j : Nat, j < n ∧ x = nI j) ∧ z = nI 0 ∧ ∃ r : Int32, ((r = nI 1 ∧ ∃ j k : Nat, j < n ∧ k ≤ 1000 ∧ x = nI j ∧ v = nI k ∧ (∀ i, i < n → u.1.1 i = if tm j / 2 ^ i % 2 = 1 then (st i + k) % q else st i) ∧ u.1.2 = (false, false)) ∨ (r = nI 0 ∧ (∀ k : Nat, k ≤ 1000 → v ≠ nI k) ∧ u.1 = (st, wk, sd))) ∧ u.2 0 = lbv r) ∨ (¬ (∃ j : Nat, j < n ∧ x = nI j) ∧ z = nI 1 ∧ u = ((st, wk, sd), oo)))) z3 u3) (h4 : (fun (z : Int32) (u : Bool × (Nat → Nat)) => (inb n x = false ∧ u = (true, sm) ∧ z = nI 0) ∨ ∃ j : Nat, j < n ∧ x = nI j ∧ u.1 = false ∧ (((∀ k : Nat, k ≤ 1000 → v ≠ nI k) ∧ z = nI 0 ∧ u.2 = sm) ∨ ∃ k : Nat, k ≤ 1000 ∧ v = nI k ∧ z = nI 1 ∧ ∀ i, i < n → u.2 i = (sm i + k * eff jn ns j i) % q)) z4 u4) :
    z3 = bI u4.1 ∧ (z3 = nI 0 → u3.2 0 = lbv z4) ∧ lcI n q gQ L pl tm u3.1.1 wt u3.1.2.1 u3.1.2.2 e5 yS.2.1 yS.2.2.2 kn k8 jn ns u4.2 wm := by
  obtain ⟨hg, hE, hW, hS, hK⟩ := hI
  obtain ⟨⟨t1, w1, s1⟩, o1⟩ := u3
  obtain ⟨th1, m1⟩ := u4
  dsimp only at h3 h4 ⊢
  rcases h3 with ⟨⟨j, hj, rfl⟩, rfl, r, hr, h0⟩ | ⟨hno, rfl, hu⟩
  · rcases h4 with ⟨hb4, -⟩ | ⟨a', ha', ea, rfl, h4⟩
    · rw [inb_nI hj (by omega)] at hb4; cases hb4
    · obtain rfl : j = a' := (nI_eq (by omega) (by omega)).mp ea
      rcases hr with ⟨rfl, j', k, hj', hk, ej, rfl, ht, hu⟩ | ⟨rfl, hr0, hu⟩
      · obtain rfl : j = j' := (nI_eq (by omega) (by omega)).mp ej
        cases hu
        rcases h4 with ⟨h4a, -, -⟩ | ⟨k', hk', ek, rfl, hm⟩
        · exact absurd rfl (h4a k hk)
        · obtain rfl : k = k' := (nI_eq (by omega) (by omega)).mp ek
          have b1 : ∀ i, i < n → t1 i < q := fun i hi' => by
            rw [ht i hi']
            split
            · exact Nat.mod_lt _ (by omega)
            · exact hg.2.1 i hi'
          have b2 : ∀ i, i < n → m1 i = t1 i := fun i hi' => by
            rw [ht i hi', hm i hi', hg.2.2.2.1 i hi', ← hg.2.2.2.2.2.1 i hi' j hj]
            have e2 := Nat.mod_two_eq_zero_or_one (tm j / 2 ^ i)
            have e3 := hg.2.1 i hi'
            rcases e2 with e2 | e2
            · rw [e2, if_neg (by decide), Nat.mul_zero, Nat.add_zero, Nat.mod_eq_of_lt e3]
            · rw [e2, if_pos rfl, Nat.mul_one]
          exact ⟨rfl, fun _ => h0, gm_up_st hg b1 b2, hE, (fun h => by cases h), (fun h => by cases h), hK⟩
      · cases hu
        rcases h4 with ⟨h4a, rfl, rfl⟩ | ⟨k', hk', ek, -, -⟩
        · exact ⟨rfl, fun _ => h0, hg, hE, hW, hS, hK⟩
        · exact absurd ek (hr0 k' hk')
  · cases hu
    rcases h4 with ⟨hb4, hu4, rfl⟩ | ⟨j, hj, ej, -, -⟩
    · cases hu4
      exact ⟨rfl, fun h => absurd h (by decide), hg, hE, hW, hS, hK⟩
    · exact absurd ⟨j, hj, ej⟩ hno
theorem lc_at {n q : Nat} {gQ : Nat → Nat} {L : List Nat} {pl : Nat → Nat} {tm st wt : Nat → Nat} {wk sd : Bool} {e5 : E5} {yS : (Nat → Nat) × (Nat → Nat) × (Nat → Nat) × Int32} {kn : Bool} {k8 : Nat × (Nat → Nat) × (Nat → Nat) × (Nat → Nat) × (Nat → Bool) × (Nat → Nat) × (Nat → Nat) × (Nat → Nat)} {jn ns : Nat → Bool} {sm wm : Nat → Nat} {oo : Nat → Int64} (hn : n < 31) (hq : 2 ≤ q) (hq7 : q ≤ 7) (hi : hasInv q) (hI : lcI n q gQ L pl tm st wt wk sd e5 yS.2.1 yS.2.2.2 kn k8 jn ns sm wm) {x : Int32} {z3 z4 : Int32} {u3 : (Unit) × (Nat → Int64)} {u4 : Bool} (h3 : (fun (z : Int32) (u : (Unit) × (Nat → Int64)) => (((∃ j : Nat, j < n ∧ x = nI j) ∧ z = nI 0 ∧ ∃ r : Int32, (∃ j : Nat, j < n ∧ x = nI j ∧ r = nI (st j)) ∧ u.2 0 = r.toInt64) ∨ (¬ (∃ j : Nat, j < n ∧ x = nI j) ∧ z = nI 1 ∧ u = ((), oo)))) z3 u3) (h4 : (fun (z : Int32) (u : Bool) => (inb n x = false ∧ u = true) ∨ ∃ j : Nat, j < n ∧ x = nI j ∧ u = false ∧ z = nI (sm j)) z4 u4) :
    z3 = bI u4 ∧ (z3 = nI 0 → u3.2 0 = z4.toInt64) ∧ lcI n q gQ L pl tm st wt wk sd e5 yS.2.1 yS.2.2.2 kn k8 jn ns sm wm := by
  obtain ⟨hg, hE, hW, hS, hK⟩ := hI
  obtain ⟨_, o1⟩ := u3
  dsimp only at h3 h4 ⊢
  rcases h3 with ⟨⟨j, hj, rfl⟩, rfl, r, ⟨j', hj', ej, rfl⟩, h0⟩ | ⟨hno, rfl, hu⟩
  · obtain rfl : j = j' := (nI_eq (by omega) (by omega)).mp ej
    rcases h4 with ⟨hb4, -⟩ | ⟨a', ha', ea, rfl, rfl⟩
    · rw [inb_nI hj (by omega)] at hb4; cases hb4
    · obtain rfl : j = a' := (nI_eq (by omega) (by omega)).mp ea
      exact ⟨rfl, fun _ => by rw [h0, hg.2.2.2.1 j hj], hg, hE, hW, hS, hK⟩
  · rcases h4 with ⟨hb4, rfl⟩ | ⟨j, hj, ej, -, -⟩
    · exact ⟨rfl, fun h => absurd h (by decide), hg, hE, hW, hS, hK⟩
    · exact absurd ⟨j, hj, ej⟩ hno
theorem lc_answer {n q : Nat} {gQ : Nat → Nat} {L : List Nat} {pl : Nat → Nat} {tm st wt : Nat → Nat} {wk sd : Bool} {e5 : E5} {yS : (Nat → Nat) × (Nat → Nat) × (Nat → Nat) × Int32} {kn : Bool} {k8 : Nat × (Nat → Nat) × (Nat → Nat) × (Nat → Nat) × (Nat → Bool) × (Nat → Nat) × (Nat → Nat) × (Nat → Nat)} {jn ns : Nat → Bool} {sm wm : Nat → Nat} {an : Nat → Nat} {oo : Nat → Int64} (hn : n < 31) (hq : 2 ≤ q) (hq7 : q ≤ 7) (hi : hasInv q) (hI : lcI n q gQ L pl tm st wt wk sd e5 yS.2.1 yS.2.2.2 kn k8 jn ns sm wm) {x : Int32} {z3 z4 : Int32} {u3 : (Bool × E5) × (Nat → Int64)} {u4 : Bool × Bool × (Nat × (Nat → Nat) × (Nat → Nat) × (Nat → Nat) × (Nat → Bool) × (Nat → Nat) × (Nat → Nat) × (Nat → Nat)) × (Nat → Nat)} (h3 : (fun (z : Int32) (u : (Bool × E5) × (Nat → Int64)) => (((∃ j : Nat, j < n ∧ x = nI j) ∧ z = nI 0 ∧ ∃ r : Int32, (((E5ok n q tm st wt gQ L pl u.1.2 ∧ (wk = true → u.1.2 = (e5.1, e5.2.1, e5.2.2.1, e5.2.2.2.1, e5.2.2.2.2))) ∧ ∃ j : Nat, j < n ∧ x = nI j ∧ r = if agr (fun i => u.1.2.2.1 (u.1.2.1 i)) n (n - u.1.2.2.2.2.1) u.1.2.2.2.2.1 = true then nI (prs (fun i => u.1.2.2.1 (u.1.2.1 i)) u.1.2.2.2.1 n j) else -1) ∧ u.1.1 = true) ∧ u.2 0 = r.toInt64) ∨ (¬ (∃ j : Nat, j < n ∧ x = nI j) ∧ z = nI 1 ∧ u = ((wk, (e5.1, e5.2.1, e5.2.2.1, e5.2.2.2.1, e5.2.2.2.2)), oo)))) z3 u3) (h4 : (fun (z : Int32) (u : Bool × Bool × (Nat × (Nat → Nat) × (Nat → Nat) × (Nat → Nat) × (Nat → Bool) × (Nat → Nat) × (Nat → Nat) × (Nat → Nat)) × (Nat → Nat)) => (inb n x = false ∧ u = (true, kn, ((k8.1, k8.2.1, k8.2.2.1, k8.2.2.2.1, k8.2.2.2.2.1, k8.2.2.2.2.2.1, k8.2.2.2.2.2.2.1, k8.2.2.2.2.2.2.2), an))) ∨ ∃ j : Nat, j < n ∧ x = nI j ∧ u.1 = false ∧ u.2.1 = true ∧ (kOK n (knN n q (eff jn ns) n) u.2.2.1.1 u.2.2.1.2.1 u.2.2.1.2.2.1 u.2.2.1.2.2.2.1 u.2.2.1.2.2.2.2.2.2.2) ∧ z = if (lft (tkE n q (eff jn ns) (dfV q sm wm)).1 n 0).isNone = true then nI ((tkE n q (eff jn ns) (dfV q sm wm)).2 j) else -1) z4 u4) :
    z3 = bI u4.1 ∧ (z3 = nI 0 → u3.2 0 = z4.toInt64) ∧ lcI n q gQ L pl tm st wt u3.1.1 sd u3.1.2 yS.2.1 yS.2.2.2 u4.2.1 u4.2.2.1 jn ns sm wm := by
  obtain ⟨hg, hE, hW, hS, hK⟩ := hI
  obtain ⟨⟨w1, e1⟩, o1⟩ := u3
  obtain ⟨t4, k4, q4, a4⟩ := u4
  dsimp only at h3 h4 ⊢
  rcases h3 with ⟨⟨j, hj, rfl⟩, rfl, r, ⟨⟨⟨hE1, hwk1⟩, j', hj', ej, hr⟩, rfl⟩, h0⟩ | ⟨hno, rfl, hu⟩
  · obtain rfl : j = j' := (nI_eq (by omega) (by omega)).mp ej
    rcases h4 with ⟨hb4, -⟩ | ⟨a', ha', ea, rfl, rfl, hk, hz⟩
    · rw [inb_nI hj (by omega)] at hb4; cases hb4
    · obtain rfl : j = a' := (nI_eq (by omega) (by omega)).mp ea
      refine ⟨rfl, fun _ => ?_, hg, hE1.1, fun _ => hE1.2, (fun h => by have h1 := hS h; have h2 := hwk1 h1.1; rw [h2]; exact ⟨rfl, h1.2⟩), fun _ => hk⟩
      rw [h0]
      rw [hr, hz, gm_agr hg hq hi hE1.2]
      rcases hl : lft (tkE n q (eff jn ns) (dfV q sm wm)).1 n 0 with _ | f
      · rw [Option.isNone_none, if_pos rfl, if_pos rfl, gm_ans hg hq hi hE1.2 hl hj]
      · rw [Option.isNone_some, if_neg (by decide), if_neg (by decide)]
  · cases hu
    rcases h4 with ⟨hb4, hu4⟩ | ⟨j, hj, ej, -, -⟩
    · cases hu4
      exact ⟨rfl, fun h => absurd h (by decide), hg, hE, hW, hS, hK⟩
    · exact absurd ⟨j, hj, ej⟩ hno
theorem lc_quiet {n q : Nat} {gQ : Nat → Nat} {L : List Nat} {pl : Nat → Nat} {tm st wt : Nat → Nat} {wk sd : Bool} {e5 : E5} {yS : (Nat → Nat) × (Nat → Nat) × (Nat → Nat) × Int32} {kn : Bool} {k8 : Nat × (Nat → Nat) × (Nat → Nat) × (Nat → Nat) × (Nat → Bool) × (Nat → Nat) × (Nat → Nat) × (Nat → Nat)} {jn ns : Nat → Bool} {sm wm : Nat → Nat} {oo : Nat → Int64} (hn : n < 31) (hq : 2 ≤ q) (hq7 : q ≤ 7) (hi : hasInv q) (hI : lcI n q gQ L pl tm st wt wk sd e5 yS.2.1 yS.2.2.2 kn k8 jn ns sm wm) {y x : Int32} {z3 z4 : Int32} {u3 : (Bool × E5) × (Nat → Int64)} {u4 : Bool × Bool × (Nat × (Nat → Nat) × (Nat → Nat) × (Nat → Nat) × (Nat → Bool) × (Nat → Nat) × (Nat → Nat) × (Nat → Nat))} (h3 : (fun (z : Int32) (u : (Bool × E5) × (Nat → Int64)) => (((∃ j : Nat, j < n ∧ x = nI j) ∧ z = nI 0 ∧ ∃ r : Int32, (((E5ok n q tm st wt gQ L pl u.1.2 ∧ (wk = true → u.1.2 = (e5.1, e5.2.1, e5.2.2.1, e5.2.2.2.1, e5.2.2.2.2))) ∧ ∃ j : Nat, j < n ∧ x = nI j ∧ ((r = -1 ∧ ∀ k : Nat, k < u.1.2.2.2.2.2 → y ≠ nI k) ∨ ∃ k : Nat, k < u.1.2.2.2.2.2 ∧ y = nI k ∧ r = nI (u.1.2.2.1 (gQ k) j))) ∧ u.1.1 = true) ∧ u.2 0 = r.toInt64) ∨ (¬ (∃ j : Nat, j < n ∧ x = nI j) ∧ z = nI 1 ∧ u = ((wk, (e5.1, e5.2.1, e5.2.2.1, e5.2.2.2.1, e5.2.2.2.2)), oo)))) z3 u3) (h4 : (fun (z : Int32) (u : Bool × Bool × Nat × (Nat → Nat) × (Nat → Nat) × (Nat → Nat) × (Nat → Bool) × (Nat → Nat) × (Nat → Nat) × (Nat → Nat)) => (inb n x = false ∧ u = (true, kn, (k8.1, k8.2.1, k8.2.2.1, k8.2.2.2.1, k8.2.2.2.2.1, k8.2.2.2.2.2.1, k8.2.2.2.2.2.2.1, k8.2.2.2.2.2.2.2))) ∨ ∃ j : Nat, j < n ∧ x = nI j ∧ u.1 = false ∧ u.2.1 = true ∧ (kOK n (knN n q (eff jn ns) n) u.2.2.1 u.2.2.2.1 u.2.2.2.2.1 u.2.2.2.2.2.1 u.2.2.2.2.2.2.2.2.2) ∧ ((z = -1 ∧ ∀ k : Nat, k < (knN n q (eff jn ns) n).2.2.2.2.1 → y ≠ nI k) ∨ ∃ k : Nat, k < (knN n q (eff jn ns) n).2.2.2.2.1 ∧ y = nI k ∧ z = nI ((knN n q (eff jn ns) n).2.2.2.2.2 k j))) z4 u4) :
    z3 = bI u4.1 ∧ (z3 = nI 0 → u3.2 0 = z4.toInt64) ∧ lcI n q gQ L pl tm st wt u3.1.1 sd u3.1.2 yS.2.1 yS.2.2.2 u4.2.1 u4.2.2 jn ns sm wm := by
  obtain ⟨hg, hE, hW, hS, hK⟩ := hI
  obtain ⟨⟨w1, e1⟩, o1⟩ := u3
  obtain ⟨t4, k4, q4⟩ := u4
  dsimp only at h3 h4 ⊢
  rcases h3 with ⟨⟨j, hj, rfl⟩, rfl, r, ⟨⟨⟨hE1, hwk1⟩, j', hj', ej, hr⟩, rfl⟩, h0⟩ | ⟨hno, rfl, hu⟩
  · obtain rfl : j = j' := (nI_eq (by omega) (by omega)).mp ej
    rcases h4 with ⟨hb4, -⟩ | ⟨a', ha', ea, rfl, rfl, hk, hz⟩
    · rw [inb_nI hj (by omega)] at hb4; cases hb4
    · obtain rfl : j = a' := (nI_eq (by omega) (by omega)).mp ea
      refine ⟨rfl, fun _ => ?_, hg, hE1.1, fun _ => hE1.2, (fun h => by have h1 := hS h; have h2 := hwk1 h1.1; rw [h2]; exact ⟨rfl, h1.2⟩), fun _ => hk⟩
      rw [h0]
      have eF := gm_fr hg hq hi hE1.2
      congr 1
      rcases hr with ⟨rfl, hr⟩ | ⟨k, hk1, rfl, rfl⟩
      · rcases hz with ⟨rfl, -⟩ | ⟨k, hk2, rfl, -⟩
        · rfl
        · exact absurd rfl (hr k (by rw [eF]; exact hk2))
      · rcases hz with ⟨-, hz⟩ | ⟨k', hk2, ek, rfl⟩
        · exact absurd rfl (hz k (by rw [← eF]; exact hk1))
        · have e4 := (hE1.2.lt hq).2.2.2
          rw [← eF] at hk2
          obtain rfl : k = k' := (nI_eq (by omega) (by omega)).mp ek
          rw [gm_quiet hg hq hi hE1.2 hk1 hj]
  · cases hu
    rcases h4 with ⟨hb4, hu4⟩ | ⟨j, hj, ej, -, -⟩
    · cases hu4
      exact ⟨rfl, fun h => absurd h (by decide), hg, hE, hW, hS, hK⟩
    · exact absurd ⟨j, hj, ej⟩ hno
theorem lc_alone {n q : Nat} {gQ : Nat → Nat} {L : List Nat} {pl : Nat → Nat} {tm st wt : Nat → Nat} {wk sd : Bool} {e5 : E5} {yS : (Nat → Nat) × (Nat → Nat) × (Nat → Nat) × Int32} {kn : Bool} {k8 : Nat × (Nat → Nat) × (Nat → Nat) × (Nat → Nat) × (Nat → Bool) × (Nat → Nat) × (Nat → Nat) × (Nat → Nat)} {jn ns : Nat → Bool} {sm wm : Nat → Nat} {oo : Nat → Int64} (hn : n < 31) (hq : 2 ≤ q) (hq7 : q ≤ 7) (hi : hasInv q) (hI : lcI n q gQ L pl tm st wt wk sd e5 yS.2.1 yS.2.2.2 kn k8 jn ns sm wm) {x : Int32} {z3 z4 : Int32} {u3 : (Bool × E5) × (Nat → Int64)} {u4 : Bool × Bool × (Nat × (Nat → Nat) × (Nat → Nat) × (Nat → Nat) × (Nat → Bool) × (Nat → Nat) × (Nat → Nat) × (Nat → Nat))} (h3 : (fun (z : Int32) (u : (Bool × E5) × (Nat → Int64)) => (((∃ j : Nat, j < n ∧ x = nI j) ∧ z = nI 0 ∧ ∃ r : Int32, (((E5ok n q tm st wt gQ L pl u.1.2 ∧ (wk = true → u.1.2 = (e5.1, e5.2.1, e5.2.2.1, e5.2.2.2.1, e5.2.2.2.2))) ∧ ∃ j : Nat, j < n ∧ x = nI j ∧ ((r = nI 1 ∧ ∀ k : Nat, k < u.1.2.2.2.2.2 → u.1.2.2.1 (gQ k) j = 0) ∨ (r = nI 0 ∧ ∃ k : Nat, k < u.1.2.2.2.2.2 ∧ u.1.2.2.1 (gQ k) j ≠ 0))) ∧ u.1.1 = true) ∧ u.2 0 = lbv r) ∨ (¬ (∃ j : Nat, j < n ∧ x = nI j) ∧ z = nI 1 ∧ u = ((wk, (e5.1, e5.2.1, e5.2.2.1, e5.2.2.2.1, e5.2.2.2.2)), oo)))) z3 u3) (h4 : (fun (z : Int32) (u : Bool × Bool × Nat × (Nat → Nat) × (Nat → Nat) × (Nat → Nat) × (Nat → Bool) × (Nat → Nat) × (Nat → Nat) × (Nat → Nat)) => (inb n x = false ∧ u = (true, kn, (k8.1, k8.2.1, k8.2.2.1, k8.2.2.2.1, k8.2.2.2.2.1, k8.2.2.2.2.2.1, k8.2.2.2.2.2.2.1, k8.2.2.2.2.2.2.2)) ∧ z = nI 0) ∨ ∃ j : Nat, j < n ∧ x = nI j ∧ u.1 = false ∧ u.2.1 = true ∧ (kOK n (knN n q (eff jn ns) n) u.2.2.1 u.2.2.2.1 u.2.2.2.2.1 u.2.2.2.2.2.1 u.2.2.2.2.2.2.2.2.2) ∧ z = bI (lft (tkE n q (eff jn ns) (onV j)).1 n 0).isNone) z4 u4) :
    z3 = bI u4.1 ∧ (z3 = nI 0 → u3.2 0 = lbv z4) ∧ lcI n q gQ L pl tm st wt u3.1.1 sd u3.1.2 yS.2.1 yS.2.2.2 u4.2.1 u4.2.2 jn ns sm wm := by
  obtain ⟨hg, hE, hW, hS, hK⟩ := hI
  obtain ⟨⟨w1, e1⟩, o1⟩ := u3
  obtain ⟨t4, k4, q4⟩ := u4
  dsimp only at h3 h4 ⊢
  rcases h3 with ⟨⟨j, hj, rfl⟩, rfl, r, ⟨⟨⟨hE1, hwk1⟩, j', hj', ej, hr⟩, rfl⟩, h0⟩ | ⟨hno, rfl, hu⟩
  · obtain rfl : j = j' := (nI_eq (by omega) (by omega)).mp ej
    rcases h4 with ⟨hb4, -⟩ | ⟨a', ha', ea, rfl, rfl, hk, hz⟩
    · rw [inb_nI hj (by omega)] at hb4; cases hb4
    · obtain rfl : j = a' := (nI_eq (by omega) (by omega)).mp ea
      refine ⟨rfl, fun _ => ?_, hg, hE1.1, fun _ => hE1.2, (fun h => by have h1 := hS h; have h2 := hwk1 h1.1; rw [h2]; exact ⟨rfl, h1.2⟩), fun _ => hk⟩
      rw [h0]
      have eA := gm_alone hg hq hi hE1.2 hj
      rcases hr with ⟨rfl, hr⟩ | ⟨rfl, k, hk1, hr⟩
      · rw [hz, eA.mp hr]; rfl
      · rcases hl : lft (tkE n q (eff jn ns) (onV j)).1 n 0 with _ | f
        · exact absurd (eA.mpr hl k hk1) hr
        · rw [hz, hl]; rfl
  · cases hu
    rcases h4 with ⟨hb4, hu4, rfl⟩ | ⟨j, hj, ej, -, -⟩
    · cases hu4
      exact ⟨rfl, fun h => absurd h (by decide), hg, hE, hW, hS, hK⟩
    · exact absurd ⟨j, hj, ej⟩ hno
theorem lc_best {n q : Nat} {gQ : Nat → Nat} {L : List Nat} {pl : Nat → Nat} {tm st wt : Nat → Nat} {wk sd : Bool} {e5 : E5} {yS : (Nat → Nat) × (Nat → Nat) × (Nat → Nat) × Int32} {kn : Bool} {k8 : Nat × (Nat → Nat) × (Nat → Nat) × (Nat → Nat) × (Nat → Bool) × (Nat → Nat) × (Nat → Nat) × (Nat → Nat)} {jn ns : Nat → Bool} {sm wm : Nat → Nat} {an : Nat → Nat} {be : Nat → Nat} {ti : Nat → Nat} {oo : Nat → Int64} (hn : n < 31) (hq : 2 ≤ q) (hq7 : q ≤ 7) (hi : hasInv q) (hI : lcI n q gQ L pl tm st wt wk sd e5 yS.2.1 yS.2.2.2 kn k8 jn ns sm wm) {x : Int32} {z3 z4 : Int32} {u3 : ((Bool × Bool) × E5 × (Nat → Nat) × (Nat → Nat) × (Nat → Nat) × Int32) × (Nat → Int64)} {u4 : Bool × Bool × ((Nat × (Nat → Nat) × (Nat → Nat) × (Nat → Nat) × (Nat → Bool) × (Nat → Nat) × (Nat → Nat) × (Nat → Nat)) × (Nat → Nat)) × (Nat → Nat) × (Nat → Nat)} (h3 : (fun (z : Int32) (u : ((Bool × Bool) × E5 × (Nat → Nat) × (Nat → Nat) × (Nat → Nat) × Int32) × (Nat → Int64)) => (((∃ j : Nat, j < n ∧ x = nI j) ∧ z = nI 0 ∧ ∃ r : Int32, (((E5ok n q tm st wt gQ L pl u.1.2.1 ∧ (wk = true → u.1.2.1 = (e5.1, e5.2.1, e5.2.2.1, e5.2.2.2.1, e5.2.2.2.2)) ∧ srOK n q gQ u.1.2.1 u.1.2.2.2.1 u.1.2.2.2.2.2) ∧ ∃ j : Nat, j < n ∧ x = nI j ∧ r = if 0 ≤ u.1.2.2.2.2.2 then nI (u.1.2.2.2.1 j) else u.1.2.2.2.2.2) ∧ u.1.1 = (true, true)) ∧ u.2 0 = r.toInt64) ∨ (¬ (∃ j : Nat, j < n ∧ x = nI j) ∧ z = nI 1 ∧ u = (((wk, sd), ((e5.1, e5.2.1, e5.2.2.1, e5.2.2.2.1, e5.2.2.2.2), yS.1, yS.2.1, yS.2.2.1, yS.2.2.2)), oo)))) z3 u3) (h4 : (fun (z : Int32) (u : Bool × Bool × ((Nat × (Nat → Nat) × (Nat → Nat) × (Nat → Nat) × (Nat → Bool) × (Nat → Nat) × (Nat → Nat) × (Nat → Nat)) × (Nat → Nat)) × (Nat → Nat) × (Nat → Nat)) => (inb n x = false ∧ u = (true, kn, (((k8.1, k8.2.1, k8.2.2.1, k8.2.2.2.1, k8.2.2.2.2.1, k8.2.2.2.2.2.1, k8.2.2.2.2.2.2.1, k8.2.2.2.2.2.2.2), an), be, ti))) ∨ ∃ j : Nat, j < n ∧ x = nI j ∧ u.1 = false ∧ u.2.1 = true ∧ (kOK n (knN n q (eff jn ns) n) u.2.2.1.1.1 u.2.2.1.1.2.1 u.2.2.1.1.2.2.1 u.2.2.1.1.2.2.2.1 u.2.2.1.1.2.2.2.2.2.2.2) ∧ ∃ y : Int32, fbP n q (knN n q (eff jn ns) n).2.2.2.2.1 (lft (tkE n q (eff jn ns) (dfV q sm wm)).1 n 0).isNone (ttF q (knN n q (eff jn ns) n).2.2.2.2.2 (tkE n q (eff jn ns) (dfV q sm wm)).2) y u.2.2.2.1 ∧ z = if y < 0 then y else nI (u.2.2.2.1 j)) z4 u4) :
    z3 = bI u4.1 ∧ (z3 = nI 0 → u3.2 0 = z4.toInt64) ∧ lcI n q gQ L pl tm st wt u3.1.1.1 u3.1.1.2 u3.1.2.1 u3.1.2.2.2.1 u3.1.2.2.2.2.2 u4.2.1 u4.2.2.1.1 jn ns sm wm := by
  obtain ⟨hg, hE, hW, hS, hK⟩ := hI
  obtain ⟨⟨⟨w1, s1⟩, e1, r1, l1, p1, t1⟩, o1⟩ := u3
  obtain ⟨t4, k4, ⟨q4, a4⟩, b4, i4⟩ := u4
  dsimp only at h3 h4 ⊢
  rcases h3 with ⟨⟨j, hj, rfl⟩, rfl, r, ⟨⟨⟨hE1, hwk1, hsr⟩, j', hj', ej, hr⟩, hws⟩, h0⟩ | ⟨hno, rfl, hu⟩
  · cases hws
    obtain rfl : j = j' := (nI_eq (by omega) (by omega)).mp ej
    rcases h4 with ⟨hb4, -⟩ | ⟨a', ha', ea, rfl, rfl, hk, y4, hf, hz⟩
    · rw [inb_nI hj (by omega)] at hb4; cases hb4
    · obtain rfl : j = a' := (nI_eq (by omega) (by omega)).mp ea
      refine ⟨rfl, fun _ => ?_, hg, hE1.1, fun _ => hE1.2, fun _ => ⟨rfl, hsr⟩, fun _ => hk⟩
      rw [h0, hr, hz, gm_best (gm_sr hg hn hq (by omega) hi hE1.2 hsr hf) hj]
  · cases hu
    rcases h4 with ⟨hb4, hu4⟩ | ⟨j, hj, ej, -, -⟩
    · cases hu4
      exact ⟨rfl, fun h => absurd h (by decide), hg, hE, hW, hS, hK⟩
    · exact absurd ⟨j, hj, ej⟩ hno
theorem lc_rank {n q : Nat} {gQ : Nat → Nat} {L : List Nat} {pl : Nat → Nat} {tm st wt : Nat → Nat} {wk sd : Bool} {e5 : E5} {yS : (Nat → Nat) × (Nat → Nat) × (Nat → Nat) × Int32} {kn : Bool} {k8 : Nat × (Nat → Nat) × (Nat → Nat) × (Nat → Nat) × (Nat → Bool) × (Nat → Nat) × (Nat → Nat) × (Nat → Nat)} {jn ns : Nat → Bool} {sm wm : Nat → Nat} (hn : n < 31) (hq : 2 ≤ q) (hq7 : q ≤ 7) (hi : hasInv q) (hI : lcI n q gQ L pl tm st wt wk sd e5 yS.2.1 yS.2.2.2 kn k8 jn ns sm wm) {z3 z4 : Int32} {u3 : E5} {u4 : Nat × (Nat → Nat) × (Nat → Nat) × (Nat → Nat) × (Nat → Bool) × (Nat → Nat) × (Nat → Nat) × (Nat → Nat)} (h3 : (fun (z : Int32) (u : E5) => (E5ok n q tm st wt gQ L pl u ∧ (wk = true → u = (e5.1, e5.2.1, e5.2.2.1, e5.2.2.2.1, e5.2.2.2.2))) ∧ z = nI u.2.2.2.1) z3 u3) (h4 : (fun (z : Int32) (u : Nat × (Nat → Nat) × (Nat → Nat) × (Nat → Nat) × (Nat → Bool) × (Nat → Nat) × (Nat → Nat) × (Nat → Nat)) => (kOK n (knN n q (eff jn ns) n) u.1 u.2.1 u.2.2.1 u.2.2.2.1 u.2.2.2.2.2.2.2) ∧ z = nI (knN n q (eff jn ns) n).1) z4 u4) :
    z3 = z4 ∧ lcI n q gQ L pl tm st wt true sd u3 yS.2.1 yS.2.2.2 true u4 jn ns sm wm := by
  obtain ⟨hg, hE, hW, hS, hK⟩ := hI
  obtain ⟨⟨hE1, hwk1⟩, rfl⟩ := h3
  obtain ⟨hk, rfl⟩ := h4
  exact ⟨by rw [gm_rank hg hq hi hE1.2], hg, hE1.1, fun _ => hE1.2, (fun h => by have h1 := hS h; have h2 := hwk1 h1.1; rw [h2]; exact ⟨rfl, h1.2⟩), fun _ => hk⟩
theorem lc_solvable {n q : Nat} {gQ : Nat → Nat} {L : List Nat} {pl : Nat → Nat} {tm st wt : Nat → Nat} {wk sd : Bool} {e5 : E5} {yS : (Nat → Nat) × (Nat → Nat) × (Nat → Nat) × Int32} {kn : Bool} {k8 : Nat × (Nat → Nat) × (Nat → Nat) × (Nat → Nat) × (Nat → Bool) × (Nat → Nat) × (Nat → Nat) × (Nat → Nat)} {jn ns : Nat → Bool} {sm wm : Nat → Nat} (hn : n < 31) (hq : 2 ≤ q) (hq7 : q ≤ 7) (hi : hasInv q) (hI : lcI n q gQ L pl tm st wt wk sd e5 yS.2.1 yS.2.2.2 kn k8 jn ns sm wm) {z3 z4 : Int32} {u3 : E5} {u4 : (Nat × (Nat → Nat) × (Nat → Nat) × (Nat → Nat) × (Nat → Bool) × (Nat → Nat) × (Nat → Nat) × (Nat → Nat)) × (Nat → Nat)} (h3 : (fun (z : Int32) (u : E5) => (E5ok n q tm st wt gQ L pl u ∧ (wk = true → u = (e5.1, e5.2.1, e5.2.2.1, e5.2.2.2.1, e5.2.2.2.2))) ∧ z = bI (agr (fun i => u.2.1 (u.1 i)) n (n - u.2.2.2.1) u.2.2.2.1)) z3 u3) (h4 : (fun (z : Int32) (u : (Nat × (Nat → Nat) × (Nat → Nat) × (Nat → Nat) × (Nat → Bool) × (Nat → Nat) × (Nat → Nat) × (Nat → Nat)) × (Nat → Nat)) => ((kOK n (knN n q (eff jn ns) n) u.1.1 u.1.2.1 u.1.2.2.1 u.1.2.2.2.1 u.1.2.2.2.2.2.2.2) ∧ (∀ k, k < n → u.2 k = (tkE n q (eff jn ns) (dfV q sm wm)).2 k)) ∧ z = bI (lft (tkE n q (eff jn ns) (dfV q sm wm)).1 n 0).isNone) z4 u4) :
    z3 = z4 ∧ lcI n q gQ L pl tm st wt true sd u3 yS.2.1 yS.2.2.2 true u4.1 jn ns sm wm := by
  obtain ⟨hg, hE, hW, hS, hK⟩ := hI
  obtain ⟨⟨hE1, hwk1⟩, rfl⟩ := h3
  obtain ⟨⟨hk, -⟩, rfl⟩ := h4
  exact ⟨by rw [gm_agr hg hq hi hE1.2], hg, hE1.1, fun _ => hE1.2, (fun h => by have h1 := hS h; have h2 := hwk1 h1.1; rw [h2]; exact ⟨rfl, h1.2⟩), fun _ => hk⟩
theorem lc_count {n q : Nat} {gQ : Nat → Nat} {L : List Nat} {pl : Nat → Nat} {tm st wt : Nat → Nat} {wk sd : Bool} {e5 : E5} {yS : (Nat → Nat) × (Nat → Nat) × (Nat → Nat) × Int32} {dz : (Nat → Nat) × Nat} {kn : Bool} {k8 : Nat × (Nat → Nat) × (Nat → Nat) × (Nat → Nat) × (Nat → Bool) × (Nat → Nat) × (Nat → Nat) × (Nat → Nat)} {jn ns : Nat → Bool} {sm wm : Nat → Nat} {dm : Nat → Nat} (hn : n < 31) (hq : 2 ≤ q) (hq7 : q ≤ 7) (hi : hasInv q) (hI : lcI n q gQ L pl tm st wt wk sd e5 yS.2.1 yS.2.2.2 kn k8 jn ns sm wm) {x : Int32} {z3 z4 : Int32} {u3 : E5 × (Nat → Nat) × Nat} {u4 : ((Nat × (Nat → Nat) × (Nat → Nat) × (Nat → Nat) × (Nat → Bool) × (Nat → Nat) × (Nat → Nat) × (Nat → Nat)) × (Nat → Nat)) × (Nat → Nat)} (h3 : (fun (z : Int32) (u : E5 × (Nat → Nat) × Nat) => (E5ok n q tm st wt gQ L pl u.1 ∧ (wk = true → u.1 = (e5.1, e5.2.1, e5.2.2.1, e5.2.2.2.1, e5.2.2.2.2))) ∧ u.2 = mulN q (va_up dz.1 0 (if agr (fun i => u.1.2.1 (u.1.1 i)) n (n - u.1.2.2.2.1) u.1.2.2.2.1 = true then 1 else 0), 1) u.1.2.2.2.2 ∧ z = if x < 0 ∨ nI u.2.2 ≤ x then -1 else nI (u.2.1 x.toNatClampNeg)) z3 u3) (h4 : (fun (z : Int32) (u : ((Nat × (Nat → Nat) × (Nat → Nat) × (Nat → Nat) × (Nat → Bool) × (Nat → Nat) × (Nat → Nat) × (Nat → Nat)) × (Nat → Nat)) × (Nat → Nat)) => (kOK n (knN n q (eff jn ns) n) u.1.1.1 u.1.1.2.1 u.1.1.2.2.1 u.1.1.2.2.2.1 u.1.1.2.2.2.2.2.2.2) ∧ (∀ k, k < n → u.1.2 k = (tkE n q (eff jn ns) (dfV q sm wm)).2 k) ∧ dgP (mulN q (va_up dm 0 (if (lft (tkE n q (eff jn ns) (dfV q sm wm)).1 n 0).isNone = true then 1 else 0), 1) (if (lft (tkE n q (eff jn ns) (dfV q sm wm)).1 n 0).isNone = true then (knN n q (eff jn ns) n).2.2.2.2.1 else 0)) x z) z4 u4) :
    z3 = z4 ∧ lcI n q gQ L pl tm st wt true sd u3.1 yS.2.1 yS.2.2.2 true u4.1.1 jn ns sm wm := by
  obtain ⟨hg, hE, hW, hS, hK⟩ := hI
  obtain ⟨e1, d1⟩ := u3
  dsimp only at h3 ⊢
  obtain ⟨⟨hE1, hwk1⟩, hd1, hz3⟩ := h3
  obtain ⟨hk, -, hd⟩ := h4
  have eF := gm_fr hg hq hi hE1.2
  have eA := gm_agr hg hq hi hE1.2
  rw [← eA, ← eF] at hd
  exact ⟨by rw [hz3, hd1]; exact gm_count (by omega) hd, hg, hE1.1, fun _ => hE1.2, (fun h => by have h1 := hS h; have h2 := hwk1 h1.1; rw [h2]; exact ⟨rfl, h1.2⟩), fun _ => hk⟩
theorem lc_fewest {n q : Nat} {gQ : Nat → Nat} {L : List Nat} {pl : Nat → Nat} {tm st wt : Nat → Nat} {wk sd : Bool} {e5 : E5} {yS : (Nat → Nat) × (Nat → Nat) × (Nat → Nat) × Int32} {kn : Bool} {k8 : Nat × (Nat → Nat) × (Nat → Nat) × (Nat → Nat) × (Nat → Bool) × (Nat → Nat) × (Nat → Nat) × (Nat → Nat)} {jn ns : Nat → Bool} {sm wm : Nat → Nat} (hn : n < 31) (hq : 2 ≤ q) (hq7 : q ≤ 7) (hi : hasInv q) (hI : lcI n q gQ L pl tm st wt wk sd e5 yS.2.1 yS.2.2.2 kn k8 jn ns sm wm) {z3 z4 : Int32} {u3 : E5 × (Nat → Nat) × (Nat → Nat) × (Nat → Nat) × Int32} {u4 : ((Nat × (Nat → Nat) × (Nat → Nat) × (Nat → Nat) × (Nat → Bool) × (Nat → Nat) × (Nat → Nat) × (Nat → Nat)) × (Nat → Nat)) × (Nat → Nat) × (Nat → Nat)} (h3 : (fun (z : Int32) (u : E5 × (Nat → Nat) × (Nat → Nat) × (Nat → Nat) × Int32) => (E5ok n q tm st wt gQ L pl u.1 ∧ (wk = true → u.1 = (e5.1, e5.2.1, e5.2.2.1, e5.2.2.2.1, e5.2.2.2.2)) ∧ srOK n q gQ u.1 u.2.2.1 u.2.2.2.2) ∧ z = u.2.2.2.2) z3 u3) (h4 : (fun (z : Int32) (u : ((Nat × (Nat → Nat) × (Nat → Nat) × (Nat → Nat) × (Nat → Bool) × (Nat → Nat) × (Nat → Nat) × (Nat → Nat)) × (Nat → Nat)) × (Nat → Nat) × (Nat → Nat)) => (kOK n (knN n q (eff jn ns) n) u.1.1.1 u.1.1.2.1 u.1.1.2.2.1 u.1.1.2.2.2.1 u.1.1.2.2.2.2.2.2.2) ∧ (∀ k, k < n → u.1.2 k = (tkE n q (eff jn ns) (dfV q sm wm)).2 k) ∧ fbP n q (knN n q (eff jn ns) n).2.2.2.2.1 (lft (tkE n q (eff jn ns) (dfV q sm wm)).1 n 0).isNone (ttF q (knN n q (eff jn ns) n).2.2.2.2.2 (tkE n q (eff jn ns) (dfV q sm wm)).2) z u.2.1) z4 u4) :
    z3 = z4 ∧ lcI n q gQ L pl tm st wt true true u3.1 u3.2.2.1 u3.2.2.2.2 true u4.1.1 jn ns sm wm := by
  obtain ⟨hg, hE, hW, hS, hK⟩ := hI
  obtain ⟨e1, r1, l1, p1, t1⟩ := u3
  dsimp only at h3 ⊢
  obtain ⟨⟨hE1, hwk1, hsr⟩, rfl⟩ := h3
  obtain ⟨hk, -, hf⟩ := h4
  exact ⟨(gm_sr hg hn hq (by omega) hi hE1.2 hsr hf).1.symm, hg, hE1.1, fun _ => hE1.2, fun _ => ⟨rfl, hsr⟩, fun _ => hk⟩
theorem lc_apart {n q : Nat} {gQ : Nat → Nat} {L : List Nat} {pl : Nat → Nat} {tm st wt : Nat → Nat} {wk sd : Bool} {e5 : E5} {yS : (Nat → Nat) × (Nat → Nat) × (Nat → Nat) × Int32} {kn : Bool} {k8 : Nat × (Nat → Nat) × (Nat → Nat) × (Nat → Nat) × (Nat → Bool) × (Nat → Nat) × (Nat → Nat) × (Nat → Nat)} {jn ns : Nat → Bool} {sm wm : Nat → Nat} (hn : n < 31) (hq : 2 ≤ q) (hq7 : q ≤ 7) (hi : hasInv q) (hI : lcI n q gQ L pl tm st wt wk sd e5 yS.2.1 yS.2.2.2 kn k8 jn ns sm wm) {z3 z4 : Int32} {u3 : Unit} {u4 : Unit} (h3 : (fun (z : Int32) (_ : Unit) => z = nI (apt st wt n)) z3 u3) (h4 : (fun (z : Int32) (_ : Unit) => z = nI (apt sm wm n)) z4 u4) :
    z3 = z4 ∧ lcI n q gQ L pl tm st wt wk sd e5 yS.2.1 yS.2.2.2 kn k8 jn ns sm wm := by
  obtain ⟨hg, hE, hW, hS, hK⟩ := hI
  exact ⟨by rw [h3, h4, apt_cg n (fun j hj => hg.2.2.2.1 j hj) (fun j hj => hg.2.2.2.2.1 j hj)], hg, hE, hW, hS, hK⟩
theorem lc_clear {n q : Nat} {gQ : Nat → Nat} {L : List Nat} {pl : Nat → Nat} {tm st wt : Nat → Nat} {wk sd : Bool} {e5 : E5} {yS : (Nat → Nat) × (Nat → Nat) × (Nat → Nat) × Int32} {kn : Bool} {k8 : Nat × (Nat → Nat) × (Nat → Nat) × (Nat → Nat) × (Nat → Bool) × (Nat → Nat) × (Nat → Nat) × (Nat → Nat)} {jn ns : Nat → Bool} {sm wm : Nat → Nat} (hn : n < 31) (hq : 2 ≤ q) (hq7 : q ≤ 7) (hi : hasInv q) (hI : lcI n q gQ L pl tm st wt wk sd e5 yS.2.1 yS.2.2.2 kn k8 jn ns sm wm) {u3 u4 : (Nat → Nat) × (Nat → Nat)} (h3 : (fun u : (Nat → Nat) × (Nat → Nat) => (∀ j, j < n → u.1 j = 0) ∧ ∀ j, j < n → u.2 j = 0) u3) (h4 : (fun u : (Nat → Nat) × (Nat → Nat) => (∀ k, k < n → u.1 k = 0) ∧ ∀ k, k < n → u.2 k = 0) u4) :
    lcI n q gQ L pl tm u3.1 u3.2 false false e5 yS.2.1 yS.2.2.2 kn k8 jn ns u4.1 u4.2 := by
  obtain ⟨hg, hE, hW, hS, hK⟩ := hI
  obtain ⟨a1, a2⟩ := h3
  obtain ⟨b1, b2⟩ := h4
  exact ⟨⟨hg.1, fun j hj => by rw [a1 j hj]; omega, fun j hj => by rw [a2 j hj]; omega, fun j hj => by rw [a1 j hj, b1 j hj], fun j hj => by rw [a2 j hj, b2 j hj], hg.2.2.2.2.2⟩, hE, (fun h => by cases h), (fun h => by cases h), hK⟩
end LCT
