/-! THE LAW'S LOOP -/
section LAW2
variable {xs : RO} {d : Nat}
theorem i32_rng (x : Int32) : -2147483648 ≤ x.toInt ∧ x.toInt ≤ 2147483647 := by
  have h1 := Int32.toInt_lt x
  have h2 := Int32.le_toInt x
  omega
abbrev pOne : Option AV → LY → IM → LM → Prop := p2 fun v _ _ => v = some (vi 1)
theorem law_loop (hx : ∀ z, -2147483648 ≤ xs.2 z ∧ xs.2 z ≤ 2147483647) (hL : xs.1 ≤ 2560) : ∀ (n : Nat) (k : Int) (I : IM) (L : LM), 0 ≤ k → k ≤ 3000 → (xs.1 : Int) - k < n → Inv I → Wk xs x_Law_law (d + 13) 0 0 18 [some (vr 1000000), some (vr 0), some (vr 148), some (vi k)] [] X2 I L pOne := by
  intro n
  induction n with
  | zero =>
    intro k I L k0 k2 hn hI
    refine Wk.iload_n (k := 3) (q := 19) (by decide +kernel) rfl rfl rfl ?_
    refine Wk.aload_n (k := 0) (q := 20) (by decide +kernel) rfl rfl rfl ?_
    refine Wk.alenS (q := 21) rfl (by decide +kernel) rfl ?_
    refine Wk.iconst (n := 5) (q := 22) (by decide +kernel) rfl ?_
    refine Wk.isub (q := 23) (by decide +kernel) rfl ?_
    refine Wk.icmp_gt (off := (819)) (t := 842) (q := 26) (by decide +kernel) (by decide) rfl (by first | omega | exact bi_rng _) (by first | omega | exact bi_rng _) (fun hc23 => ?_) (fun hc23 => ?_)
    · refine Wk.iconst (n := 1) (q := 843) (by decide +kernel) rfl ?_
      exact Wk.rzP (by decide +kernel) rfl (by omega) rfl
    · omega
  | succ n ihn =>
    intro k I L k0 k2 hn hI
    refine Wk.iload_n (k := 3) (q := 19) (by decide +kernel) rfl rfl rfl ?_
    refine Wk.aload_n (k := 0) (q := 20) (by decide +kernel) rfl rfl rfl ?_
    refine Wk.alenS (q := 21) rfl (by decide +kernel) rfl ?_
    refine Wk.iconst (n := 5) (q := 22) (by decide +kernel) rfl ?_
    refine Wk.isub (q := 23) (by decide +kernel) rfl ?_
    refine Wk.icmp_gt (off := (819)) (t := 842) (q := 26) (by decide +kernel) (by decide) rfl (by first | omega | exact bi_rng _) (by first | omega | exact bi_rng _) (fun hc23 => ?_) (fun hc23 => ?_)
    · refine Wk.iconst (n := 1) (q := 843) (by decide +kernel) rfl ?_
      exact Wk.rzP (by decide +kernel) rfl (by omega) rfl
    · have ih : ∀ I' L', Inv I' → Wk xs x_Law_law (d + 13) 0 0 836 [some (vr 1000000), some (vr 0), some (vr 148), some (vi k)] [] X2 I' L' pOne := by
        intro I' L' hI'
        refine Wk.iinc (i := 3) (n := 5) (q := 839) (by decide +kernel) rfl (by decide) rfl (fun _ h => h) rfl ?_
        refine Wk.goto (off := (-821)) (q := 18) (by decide +kernel) (by decide) ?_
        exact ihn (k + 5) _ _ (by omega) (by omega) (by omega) hI'
      refine Wk.aload_n (k := 0) (q := 27) (by decide +kernel) rfl rfl rfl ?_
      refine Wk.iload_n (k := 3) (q := 28) (by decide +kernel) rfl rfl rfl ?_
      refine Wk.ialS (q := 29) (by decide +kernel) (by first | omega | exact bi_rng _) (by first | omega | exact bi_rng _) rfl ?_
      refine Wk.bipush (n := 31) (q := 31) (by decide +kernel) (by decide +kernel) rfl ?_
      refine Wk.iand (q := 32) (by decide +kernel) rfl ?_
      have hs := i32_rng (nZ (xs.2 k) &&& nZ 31)
      generalize (nZ (xs.2 k) &&& nZ 31).toInt = sw at hs ⊢
      rcases Classical.em (sw < 0 ∨ 23 < sw) with hsw | hsw
      · refine Wk.tabOut (dflt := 804) (lo := 0) (hi := 23) (offs := #[112, 135, 178, 211, 244, 277, 330, 363, 406, 429, 452, 495, 538, 561, 574, 597, 620, 643, 666, 689, 722, 735, 758, 781]) (len := 112) (t := 836) (by decide +kernel) (hs) hsw (by decide) ?_
        exact ih _ _ hI
      · have hsx : sw = 0 ∨ sw = 1 ∨ sw = 2 ∨ sw = 3 ∨ sw = 4 ∨ sw = 5 ∨ sw = 6 ∨ sw = 7 ∨ sw = 8 ∨ sw = 9 ∨ sw = 10 ∨ sw = 11 ∨ sw = 12 ∨ sw = 13 ∨ sw = 14 ∨ sw = 15 ∨ sw = 16 ∨ sw = 17 ∨ sw = 18 ∨ sw = 19 ∨ sw = 20 ∨ sw = 21 ∨ sw = 22 ∨ sw = 23 := by omega
        rcases hsx with rfl | rfl | rfl | rfl | rfl | rfl | rfl | rfl | rfl | rfl | rfl | rfl | rfl | rfl | rfl | rfl | rfl | rfl | rfl | rfl | rfl | rfl | rfl | rfl
        · refine Wk.tabIn (dflt := 804) (lo := 0) (hi := 23) (offs := #[112, 135, 178, 211, 244, 277, 330, 363, 406, 429, 452, 495, 538, 561, 574, 597, 620, 643, 666, 689, 722, 735, 758, 781]) (len := 112) (off := 112) (t := 144) (by decide +kernel) (by decide) (by decide) (by decide) (by decide) (by decide) ?_
          exact law_told hx hI k0 (by omega) ih
        · refine Wk.tabIn (dflt := 804) (lo := 0) (hi := 23) (offs := #[112, 135, 178, 211, 244, 277, 330, 363, 406, 429, 452, 495, 538, 561, 574, 597, 620, 643, 666, 689, 722, 735, 758, 781]) (len := 112) (off := 135) (t := 167) (by decide +kernel) (by decide) (by decide) (by decide) (by decide) (by decide) ?_
          exact law_cell hx hI k0 (by omega) ih
        · refine Wk.tabIn (dflt := 804) (lo := 0) (hi := 23) (offs := #[112, 135, 178, 211, 244, 277, 330, 363, 406, 429, 452, 495, 538, 561, 574, 597, 620, 643, 666, 689, 722, 735, 758, 781]) (len := 112) (off := 178) (t := 210) (by decide +kernel) (by decide) (by decide) (by decide) (by decide) (by decide) ?_
          exact law_ship hx hI k0 (by omega) ih
        · refine Wk.tabIn (dflt := 804) (lo := 0) (hi := 23) (offs := #[112, 135, 178, 211, 244, 277, 330, 363, 406, 429, 452, 495, 538, 561, 574, 597, 620, 643, 666, 689, 722, 735, 758, 781]) (len := 112) (off := 211) (t := 243) (by decide +kernel) (by decide) (by decide) (by decide) (by decide) (by decide) ?_
          exact law_waits hx hI k0 (by omega) ih
        · refine Wk.tabIn (dflt := 804) (lo := 0) (hi := 23) (offs := #[112, 135, 178, 211, 244, 277, 330, 363, 406, 429, 452, 495, 538, 561, 574, 597, 620, 643, 666, 689, 722, 735, 758, 781]) (len := 112) (off := 244) (t := 276) (by decide +kernel) (by decide) (by decide) (by decide) (by decide) (by decide) ?_
          exact law_moves hx hI k0 (by omega) ih
        · refine Wk.tabIn (dflt := 804) (lo := 0) (hi := 23) (offs := #[112, 135, 178, 211, 244, 277, 330, 363, 406, 429, 452, 495, 538, 561, 574, 597, 620, 643, 666, 689, 722, 735, 758, 781]) (len := 112) (off := 277) (t := 309) (by decide +kernel) (by decide) (by decide) (by decide) (by decide) (by decide) ?_
          exact law_lies hx hI k0 (by omega) ih
        · refine Wk.tabIn (dflt := 804) (lo := 0) (hi := 23) (offs := #[112, 135, 178, 211, 244, 277, 330, 363, 406, 429, 452, 495, 538, 561, 574, 597, 620, 643, 666, 689, 722, 735, 758, 781]) (len := 112) (off := 330) (t := 362) (by decide +kernel) (by decide) (by decide) (by decide) (by decide) (by decide) ?_
          exact law_harbour hx hI k0 (by omega) ih
        · refine Wk.tabIn (dflt := 804) (lo := 0) (hi := 23) (offs := #[112, 135, 178, 211, 244, 277, 330, 363, 406, 429, 452, 495, 538, 561, 574, 597, 620, 643, 666, 689, 722, 735, 758, 781]) (len := 112) (off := 363) (t := 395) (by decide +kernel) (by decide) (by decide) (by decide) (by decide) (by decide) ?_
          exact law_depth hx hI k0 (by omega) ih
        · refine Wk.tabIn (dflt := 804) (lo := 0) (hi := 23) (offs := #[112, 135, 178, 211, 244, 277, 330, 363, 406, 429, 452, 495, 538, 561, 574, 597, 620, 643, 666, 689, 722, 735, 758, 781]) (len := 112) (off := 406) (t := 438) (by decide +kernel) (by decide) (by decide) (by decide) (by decide) (by decide) ?_
          exact law_tide hx hI k0 (by omega) ih
        · refine Wk.tabIn (dflt := 804) (lo := 0) (hi := 23) (offs := #[112, 135, 178, 211, 244, 277, 330, 363, 406, 429, 452, 495, 538, 561, 574, 597, 620, 643, 666, 689, 722, 735, 758, 781]) (len := 112) (off := 429) (t := 461) (by decide +kernel) (by decide) (by decide) (by decide) (by decide) (by decide) ?_
          exact law_winds hx hI k0 (by omega) ih
        · refine Wk.tabIn (dflt := 804) (lo := 0) (hi := 23) (offs := #[112, 135, 178, 211, 244, 277, 330, 363, 406, 429, 452, 495, 538, 561, 574, 597, 620, 643, 666, 689, 722, 735, 758, 781]) (len := 112) (off := 452) (t := 484) (by decide +kernel) (by decide) (by decide) (by decide) (by decide) (by decide) ?_
          exact law_arrive hx hI k0 (by omega) ih
        · refine Wk.tabIn (dflt := 804) (lo := 0) (hi := 23) (offs := #[112, 135, 178, 211, 244, 277, 330, 363, 406, 429, 452, 495, 538, 561, 574, 597, 620, 643, 666, 689, 722, 735, 758, 781]) (len := 112) (off := 495) (t := 527) (by decide +kernel) (by decide) (by decide) (by decide) (by decide) (by decide) ?_
          exact law_anchor hx hI k0 (by omega) ih
        · refine Wk.tabIn (dflt := 804) (lo := 0) (hi := 23) (offs := #[112, 135, 178, 211, 244, 277, 330, 363, 406, 429, 452, 495, 538, 561, 574, 597, 620, 643, 666, 689, 722, 735, 758, 781]) (len := 112) (off := 538) (t := 570) (by decide +kernel) (by decide) (by decide) (by decide) (by decide) (by decide) ?_
          exact law_fit hx hI k0 (by omega) ih
        · refine Wk.tabIn (dflt := 804) (lo := 0) (hi := 23) (offs := #[112, 135, 178, 211, 244, 277, 330, 363, 406, 429, 452, 495, 538, 561, 574, 597, 620, 643, 666, 689, 722, 735, 758, 781]) (len := 112) (off := 561) (t := 593) (by decide +kernel) (by decide) (by decide) (by decide) (by decide) (by decide) ?_
          exact law_fitAll hx hI k0 (by omega) ih
        · refine Wk.tabIn (dflt := 804) (lo := 0) (hi := 23) (offs := #[112, 135, 178, 211, 244, 277, 330, 363, 406, 429, 452, 495, 538, 561, 574, 597, 620, 643, 666, 689, 722, 735, 758, 781]) (len := 112) (off := 574) (t := 606) (by decide +kernel) (by decide) (by decide) (by decide) (by decide) (by decide) ?_
          exact law_shift hx hI k0 (by omega) ih
        · refine Wk.tabIn (dflt := 804) (lo := 0) (hi := 23) (offs := #[112, 135, 178, 211, 244, 277, 330, 363, 406, 429, 452, 495, 538, 561, 574, 597, 620, 643, 666, 689, 722, 735, 758, 781]) (len := 112) (off := 597) (t := 629) (by decide +kernel) (by decide) (by decide) (by decide) (by decide) (by decide) ?_
          exact law_leave hx hI k0 (by omega) ih
        · refine Wk.tabIn (dflt := 804) (lo := 0) (hi := 23) (offs := #[112, 135, 178, 211, 244, 277, 330, 363, 406, 429, 452, 495, 538, 561, 574, 597, 620, 643, 666, 689, 722, 735, 758, 781]) (len := 112) (off := 620) (t := 652) (by decide +kernel) (by decide) (by decide) (by decide) (by decide) (by decide) ?_
          exact law_turnAway hx hI k0 (by omega) ih
        · refine Wk.tabIn (dflt := 804) (lo := 0) (hi := 23) (offs := #[112, 135, 178, 211, 244, 277, 330, 363, 406, 429, 452, 495, 538, 561, 574, 597, 620, 643, 666, 689, 722, 735, 758, 781]) (len := 112) (off := 643) (t := 675) (by decide +kernel) (by decide) (by decide) (by decide) (by decide) (by decide) ?_
          exact law_drift hx hI k0 (by omega) ih
        · refine Wk.tabIn (dflt := 804) (lo := 0) (hi := 23) (offs := #[112, 135, 178, 211, 244, 277, 330, 363, 406, 429, 452, 495, 538, 561, 574, 597, 620, 643, 666, 689, 722, 735, 758, 781]) (len := 112) (off := 666) (t := 698) (by decide +kernel) (by decide) (by decide) (by decide) (by decide) (by decide) ?_
          exact law_undo hx hI k0 (by omega) ih
        · refine Wk.tabIn (dflt := 804) (lo := 0) (hi := 23) (offs := #[112, 135, 178, 211, 244, 277, 330, 363, 406, 429, 452, 495, 538, 561, 574, 597, 620, 643, 666, 689, 722, 735, 758, 781]) (len := 112) (off := 689) (t := 721) (by decide +kernel) (by decide) (by decide) (by decide) (by decide) (by decide) ?_
          exact law_write hx hI k0 (by omega) ih
        · refine Wk.tabIn (dflt := 804) (lo := 0) (hi := 23) (offs := #[112, 135, 178, 211, 244, 277, 330, 363, 406, 429, 452, 495, 538, 561, 574, 597, 620, 643, 666, 689, 722, 735, 758, 781]) (len := 112) (off := 722) (t := 754) (by decide +kernel) (by decide) (by decide) (by decide) (by decide) (by decide) ?_
          exact law_tear hx hI k0 (by omega) ih
        · refine Wk.tabIn (dflt := 804) (lo := 0) (hi := 23) (offs := #[112, 135, 178, 211, 244, 277, 330, 363, 406, 429, 452, 495, 538, 561, 574, 597, 620, 643, 666, 689, 722, 735, 758, 781]) (len := 112) (off := 735) (t := 767) (by decide +kernel) (by decide) (by decide) (by decide) (by decide) (by decide) ?_
          exact law_seed hx hI k0 (by omega) ih
        · refine Wk.tabIn (dflt := 804) (lo := 0) (hi := 23) (offs := #[112, 135, 178, 211, 244, 277, 330, 363, 406, 429, 452, 495, 538, 561, 574, 597, 620, 643, 666, 689, 722, 735, 758, 781]) (len := 112) (off := 758) (t := 790) (by decide +kernel) (by decide) (by decide) (by decide) (by decide) (by decide) ?_
          exact law_keep hx hI k0 (by omega) ih
        · refine Wk.tabIn (dflt := 804) (lo := 0) (hi := 23) (offs := #[112, 135, 178, 211, 244, 277, 330, 363, 406, 429, 452, 495, 538, 561, 574, 597, 620, 643, 666, 689, 722, 735, 758, 781]) (len := 112) (off := 781) (t := 813) (by decide +kernel) (by decide) (by decide) (by decide) (by decide) (by decide) ?_
          exact law_goBack hx hI k0 (by omega) ih
end LAW2
