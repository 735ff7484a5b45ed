theorem lc_gt {a b : Nat} (ha : a < 2 ^ 30) (hb : b < 2 ^ 30) : nI a - nI 3 < nI b ↔ a < b + 3 := by
  rw [Int32.lt_iff_toInt_lt, pk_sub_toInt ha (by omega), nI_toInt (by omega)]
  omega
set_option maxHeartbeats 4000000 in
set_option maxRecDepth 100000 in
theorem la_exit {zp : Program} {l : Launch} {s : State} {m : MethodId} {meth : Method} {zc : Code} {dC : Nat → ClassId} {dI : Nat → Nat → Nat} {bs : Nat} {LL : Nat} {xs : Nat → Int32} {A : Nat → Prop} {cI : ClassId} {cG : ClassId} {cJ : ClassId} {cZ : ClassId} {cL : ClassId} {str : Nat} {n : Nat} {q : Nat} {ze : Env} {below : List Frame} {gQ : Nat → Nat} {L : List Nat} {pl : Nat → Nat} {o0 : Nat} {b1 : Nat} {b2 : Nat} {b3 : Nat} {h0 : Nat} {a1 : Nat} {a2 : Nat} {a3 : Nat} {g0 : Nat} {c1 : Nat} {c2 : Nat} {c3 : Nat} {d0 : Nat} {d1 : Nat} {m0 : Nat} {aJ : Nat} {aS : Nat} {aT : Nat} {aW : Nat} {aR : Nat} {aP : Nat} {aH : Nat} {aK : Nat} {aE : Nat} {aY : Nat} {aN : Nat} {aQ : Nat} {aB : Nat} {aI : Nat} {aD : Nat} {ou : Nat} {i cs sl : Nat} (C : lcC zp l s m meth zc dC dI bs LL xs A cI cG cJ cZ cL str n q) (hi : LL < i + 3) (hi2 : i < 2000) (hcs : cs ≤ 601024) (hsl : sl ≤ 7293000) : lcW zp l s m meth zc dC dI bs LL xs A cI cG cJ cZ cL str n q ze below gQ L pl o0 b1 b2 b3 h0 a1 a2 a3 g0 c1 c2 c3 d0 d1 m0 aJ aS aT aW aR aP aH aK aE aY aN aQ aB aI aD ou i cs sl 43 := by
  obtain ⟨hAt, hLL, hfl, hA, hA2, hK, hG, hB, hn, hq, hq7, hinv⟩ := id C
  obtain ⟨hx, hb, hr, hml, hown, hts0, hX, hbl, hlocks, hgv⟩ := id hAt
  have hbA : ¬ A bs := fun h => by have := hA2 _ h; omega
  intro tm st wt wk sd e5 yS dz th kn k8 jn ns sm wm an be ti dm oo hI H locs hP hD hS ls hl
  refine lv_iload hx hb dL_law_43 (lv_at hl 4 rfl) ?_
  refine lv_aload_n hx hb dL_law_45 rfl (lv_at hl 0 rfl) ?_
  refine va_slen hx hb hX hbl hbA hS dL_law_46 ?_
  refine tp_i (y := nI LL) rfl ?_
  refine lv_iconst (v := nI 3) hx hb dL_law_47 (by decide) ?_
  refine lv_isub hx hb dL_law_48 ?_
  refine lv_icmp_gt (tgt := 920) hx hb dL_law_49 (by decide) (fun hc => ?_) (fun hc => absurd ((lc_gt (by omega) (by omega)).mpr hi) hc)
  refine lv_iconst (v := 1) hx hb dL_law_920 (by decide) ?_
  refine va_forget (fun q hq => hA2 _ (hS.2.2 q hq)) ?_
  refine W.widen (k := 601024) (n := 7293000) hcs hsl ?_
  exact lw_ret hx hb hr hlocks dL_law_921
set_option maxHeartbeats 4000000 in
set_option maxRecDepth 100000 in
theorem la_turn {zp : Program} {l : Launch} {s : State} {m : MethodId} {meth : Method} {zc : Code} {dC : Nat → ClassId} {dI : Nat → Nat → Nat} {bs : Nat} {LL : Nat} {xs : Nat → Int32} {A : Nat → Prop} {cI : ClassId} {cG : ClassId} {cJ : ClassId} {cZ : ClassId} {cL : ClassId} {str : Nat} {n : Nat} {q : Nat} {ze : Env} {below : List Frame} {gQ : Nat → Nat} {L : List Nat} {pl : Nat → Nat} {o0 : Nat} {b1 : Nat} {b2 : Nat} {b3 : Nat} {h0 : Nat} {a1 : Nat} {a2 : Nat} {a3 : Nat} {g0 : Nat} {c1 : Nat} {c2 : Nat} {c3 : Nat} {d0 : Nat} {d1 : Nat} {m0 : Nat} {aJ : Nat} {aS : Nat} {aT : Nat} {aW : Nat} {aR : Nat} {aP : Nat} {aH : Nat} {aK : Nat} {aE : Nat} {aY : Nat} {aN : Nat} {aQ : Nat} {aB : Nat} {aI : Nat} {aD : Nat} {ou : Nat} {i cs sl : Nat} (C : lcC zp l s m meth zc dC dI bs LL xs A cI cG cJ cZ cL str n q) (hi2 : 2 ≤ i) (hi : i + 3 ≤ LL) (hcs : cs + 10 ≤ 601024) (hsl : sl + 100 ≤ 7293000) (kk : lcW zp l s m meth zc dC dI bs LL xs A cI cG cJ cZ cL str n q ze below gQ L pl o0 b1 b2 b3 h0 a1 a2 a3 g0 c1 c2 c3 d0 d1 m0 aJ aS aT aW aR aP aH aK aE aY aN aQ aB aI aD ou i (cs + 2) (sl + 12) 914) : lcW zp l s m meth zc dC dI bs LL xs A cI cG cJ cZ cL str n q ze below gQ L pl o0 b1 b2 b3 h0 a1 a2 a3 g0 c1 c2 c3 d0 d1 m0 aJ aS aT aW aR aP aH aK aE aY aN aQ aB aI aD ou i cs sl 43 := by
  obtain ⟨hAt, hLL, hfl, hA, hA2, hK, hG, hB, hn, hq, hq7, hinv⟩ := id C
  obtain ⟨hx, hb, hr, hml, hown, hts0, hX, hbl, hlocks, hgv⟩ := id hAt
  have hbA : ¬ A bs := fun h => by have := hA2 _ h; omega
  intro tm st wt wk sd e5 yS dz th kn k8 jn ns sm wm an be ti dm oo hI H locs hP hD hS ls hl
  refine lv_iload hx hb dL_law_43 (lv_at hl 4 rfl) ?_
  refine lv_aload_n hx hb dL_law_45 rfl (lv_at hl 0 rfl) ?_
  refine va_slen hx hb hX hbl hbA hS dL_law_46 ?_
  refine tp_i (y := nI LL) rfl ?_
  refine lv_iconst (v := nI 3) hx hb dL_law_47 (by decide) ?_
  refine lv_isub hx hb dL_law_48 ?_
  refine lv_icmp_gt (tgt := 920) hx hb dL_law_49 (by decide) (fun hc => absurd ((lc_gt (by omega) (by omega)).mp hc) (by omega)) (fun hc => ?_)
  refine lv_aload_n hx hb dL_law_52 rfl (lv_at hl 0 rfl) ?_
  refine lv_iload hx hb dL_law_53 (lv_at hl 4 rfl) ?_
  refine va_sld hx hb hX hbl hbA hS (i := nI i) (vp_in_nI (by omega) (by omega)) dL_law_55 ?_
  refine lv_bipush (v := nI 15) hx hb dL_law_56 (by decide) ?_
  refine lv_iand hx hb dL_law_58 ?_
  obtain ⟨k, hk, ek⟩ := pk_andE (xs (nI i).toNatClampNeg) (m := nI 15) 4 (by decide)
  refine tp_i (y := nI k) ek ?_
  rcases (show k = 0 ∨ k = 1 ∨ k = 2 ∨ k = 3 ∨ k = 4 ∨ k = 5 ∨ k = 6 ∨ k = 7 ∨ k = 8 ∨ k = 9 ∨ k = 10 ∨ k = 11 ∨ k = 12 ∨ k = 13 ∨ k = 14 ∨ k = 15 by omega) with rfl | rfl | rfl | rfl | rfl | rfl | rfl | rfl | rfl | rfl | rfl | rfl | rfl | rfl | rfl | rfl
  · refine lv_tableIn (off := 77) (tgt := 136) hx hb dL_law_59 (by decide +kernel) (by decide +kernel) (by decide +kernel) (by decide) ?_
    exact la_join C hi2 hi hcs hsl kk tm st wt wk sd e5 yS dz th kn k8 jn ns sm wm an be ti dm oo hI _ _ hP hD hS ls hl
  · refine lv_tableIn (off := 152) (tgt := 211) hx hb dL_law_59 (by decide +kernel) (by decide +kernel) (by decide +kernel) (by decide) ?_
    by_cases hz0 : xs (i + 2) = 0
    · exact la_self0 C hi2 hi hcs hsl hz0 kk tm st wt wk sd e5 yS dz th kn k8 jn ns sm wm an be ti dm oo hI _ _ hP hD hS ls hl
    · exact la_self1 C hi2 hi hcs hsl hz0 kk tm st wt wk sd e5 yS dz th kn k8 jn ns sm wm an be ti dm oo hI _ _ hP hD hS ls hl
  · refine lv_tableIn (off := 243) (tgt := 302) hx hb dL_law_59 (by decide +kernel) (by decide +kernel) (by decide +kernel) (by decide) ?_
    exact la_set C hi2 hi hcs hsl kk tm st wt wk sd e5 yS dz th kn k8 jn ns sm wm an be ti dm oo hI _ _ hP hD hS ls hl
  · refine lv_tableIn (off := 318) (tgt := 377) hx hb dL_law_59 (by decide +kernel) (by decide +kernel) (by decide +kernel) (by decide) ?_
    exact la_want C hi2 hi hcs hsl kk tm st wt wk sd e5 yS dz th kn k8 jn ns sm wm an be ti dm oo hI _ _ hP hD hS ls hl
  · refine lv_tableIn (off := 393) (tgt := 452) hx hb dL_law_59 (by decide +kernel) (by decide +kernel) (by decide +kernel) (by decide) ?_
    exact la_press C hi2 hi hcs hsl kk tm st wt wk sd e5 yS dz th kn k8 jn ns sm wm an be ti dm oo hI _ _ hP hD hS ls hl
  · refine lv_tableIn (off := 468) (tgt := 527) hx hb dL_law_59 (by decide +kernel) (by decide +kernel) (by decide +kernel) (by decide) ?_
    exact la_at C hi2 hi hcs hsl kk tm st wt wk sd e5 yS dz th kn k8 jn ns sm wm an be ti dm oo hI _ _ hP hD hS ls hl
  · refine lv_tableIn (off := 524) (tgt := 583) hx hb dL_law_59 (by decide +kernel) (by decide +kernel) (by decide +kernel) (by decide) ?_
    exact la_apart C hi2 hi hcs hsl kk tm st wt wk sd e5 yS dz th kn k8 jn ns sm wm an be ti dm oo hI _ _ hP hD hS ls hl
  · refine lv_tableIn (off := 537) (tgt := 596) hx hb dL_law_59 (by decide +kernel) (by decide +kernel) (by decide +kernel) (by decide) ?_
    exact la_rank C hi2 hi hcs hsl kk tm st wt wk sd e5 yS dz th kn k8 jn ns sm wm an be ti dm oo hI _ _ hP hD hS ls hl
  · refine lv_tableIn (off := 550) (tgt := 609) hx hb dL_law_59 (by decide +kernel) (by decide +kernel) (by decide +kernel) (by decide) ?_
    exact la_solvable C hi2 hi hcs hsl kk tm st wt wk sd e5 yS dz th kn k8 jn ns sm wm an be ti dm oo hI _ _ hP hD hS ls hl
  · refine lv_tableIn (off := 563) (tgt := 622) hx hb dL_law_59 (by decide +kernel) (by decide +kernel) (by decide +kernel) (by decide) ?_
    exact la_answer C hi2 hi hcs hsl kk tm st wt wk sd e5 yS dz th kn k8 jn ns sm wm an be ti dm oo hI _ _ hP hD hS ls hl
  · refine lv_tableIn (off := 619) (tgt := 678) hx hb dL_law_59 (by decide +kernel) (by decide +kernel) (by decide +kernel) (by decide) ?_
    exact la_quiet C hi2 hi hcs hsl kk tm st wt wk sd e5 yS dz th kn k8 jn ns sm wm an be ti dm oo hI _ _ hP hD hS ls hl
  · refine lv_tableIn (off := 687) (tgt := 746) hx hb dL_law_59 (by decide +kernel) (by decide +kernel) (by decide +kernel) (by decide) ?_
    exact la_count C hi2 hi hcs hsl kk tm st wt wk sd e5 yS dz th kn k8 jn ns sm wm an be ti dm oo hI _ _ hP hD hS ls hl
  · refine lv_tableIn (off := 712) (tgt := 771) hx hb dL_law_59 (by decide +kernel) (by decide +kernel) (by decide +kernel) (by decide) ?_
    exact la_fewest C hi2 hi hcs hsl kk tm st wt wk sd e5 yS dz th kn k8 jn ns sm wm an be ti dm oo hI _ _ hP hD hS ls hl
  · refine lv_tableIn (off := 725) (tgt := 784) hx hb dL_law_59 (by decide +kernel) (by decide +kernel) (by decide +kernel) (by decide) ?_
    exact la_best C hi2 hi hcs hsl kk tm st wt wk sd e5 yS dz th kn k8 jn ns sm wm an be ti dm oo hI _ _ hP hD hS ls hl
  · refine lv_tableIn (off := 781) (tgt := 840) hx hb dL_law_59 (by decide +kernel) (by decide +kernel) (by decide +kernel) (by decide) ?_
    exact la_alone C hi2 hi hcs hsl kk tm st wt wk sd e5 yS dz th kn k8 jn ns sm wm an be ti dm oo hI _ _ hP hD hS ls hl
  · refine lv_tableIn (off := 844) (tgt := 903) hx hb dL_law_59 (by decide +kernel) (by decide +kernel) (by decide +kernel) (by decide) ?_
    exact la_clear C hi2 hi hcs hsl kk tm st wt wk sd e5 yS dz th kn k8 jn ns sm wm an be ti dm oo hI _ _ hP hD hS ls hl
set_option maxHeartbeats 4000000 in
set_option maxRecDepth 100000 in
theorem la_loop {zp : Program} {l : Launch} {s : State} {m : MethodId} {meth : Method} {zc : Code} {dC : Nat → ClassId} {dI : Nat → Nat → Nat} {bs : Nat} {LL : Nat} {xs : Nat → Int32} {A : Nat → Prop} {cI : ClassId} {cG : ClassId} {cJ : ClassId} {cZ : ClassId} {cL : ClassId} {str : Nat} {n : Nat} {q : Nat} {ze : Env} {below : List Frame} {gQ : Nat → Nat} {L : List Nat} {pl : Nat → Nat} {o0 : Nat} {b1 : Nat} {b2 : Nat} {b3 : Nat} {h0 : Nat} {a1 : Nat} {a2 : Nat} {a3 : Nat} {g0 : Nat} {c1 : Nat} {c2 : Nat} {c3 : Nat} {d0 : Nat} {d1 : Nat} {m0 : Nat} {aJ : Nat} {aS : Nat} {aT : Nat} {aW : Nat} {aR : Nat} {aP : Nat} {aH : Nat} {aK : Nat} {aE : Nat} {aY : Nat} {aN : Nat} {aQ : Nat} {aB : Nat} {aI : Nat} {aD : Nat} {ou : Nat} (C : lcC zp l s m meth zc dC dI bs LL xs A cI cG cJ cZ cL str n q) : ∀ (k i j : Nat), i = 2 + 3 * j → LL ≤ i + 3 * k → i ≤ LL + 2 → lcW zp l s m meth zc dC dI bs LL xs A cI cG cJ cZ cL str n q ze below gQ L pl o0 b1 b2 b3 h0 a1 a2 a3 g0 c1 c2 c3 d0 d1 m0 aJ aS aT aW aR aP aH aK aE aY aN aQ aB aI aD ou i (91 + 2 * j) (6102 + 12 * j) 43 := by
  obtain ⟨hAt, hLL, hfl, hA, hA2, hK, hG, hB, hn, hq, hq7, hinv⟩ := id C
  obtain ⟨hx, hb, hr, hml, hown, hts0, hX, hbl, hlocks, hgv⟩ := id hAt
  have hbA : ¬ A bs := fun h => by have := hA2 _ h; omega
  intro k
  induction k with
  | zero =>
    intro i j ei h1 h2
    exact la_exit C (by omega) (by omega) (by omega) (by omega)
  | succ k ih =>
    intro i j ei h1 h2
    by_cases hi : i + 3 ≤ LL
    · refine la_turn C (by omega) hi (by omega) (by omega) ?_
      intro tm st wt wk sd e5 yS dz th kn k8 jn ns sm wm an be ti dm oo hI H locs hP hD hS ls hl
      refine lv_iinc (v := nI (i + 3)) (lv' := [(4, .int (nI (i + 3))), (0, .ref bs), (1, .ref o0), (2, .ref m0), (3, .ref ou)]) hx hb dL_law_914 hl (k := 4) rfl (nI_add i 3) (by decide) rfl (fun ls hl => ?_)
      refine lv_goto (tgt := 43) hx hb dL_law_917 (by decide) ?_
      have h9 := ih (i + 3) (j + 1) (by omega) (by omega) (by omega)
      rw [show 91 + 2 * (j + 1) = 91 + 2 * j + 2 by omega, show 6102 + 12 * (j + 1) = 6102 + 12 * j + 12 by omega] at h9
      exact h9 tm st wt wk sd e5 yS dz th kn k8 jn ns sm wm an be ti dm oo hI _ _ hP hD hS ls (lv_sub hl [1, 2, 3, 4, 0] rfl)
    · exact la_exit C (by omega) (by omega) (by omega) (by omega)
