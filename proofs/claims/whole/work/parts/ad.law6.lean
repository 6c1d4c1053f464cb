/-! the law: its loop -/
section A
variable {L : Nat} {f : Nat → Int}
/-- how the law ends -/
def LawE (c0 s0 n L : Nat) (f : Nat → Int) : Out → Prop := fun o => ∃ r1 d1 h1 c1 s1, o = (.inl (AI 1), (KS r1 d1, h1, c1, s1, L, f)) ∧ c1 ≤ c0 + n ∧ s1 ≤ s0 + 6 * n
theorem lawL (hm : L ≤ 3072) : ∀ (n : Nat) {r d : Nat} {h : Nat → Nat → Int} {N i : Int} {v5 v6 v7 v8 : AV} {c0 s0 : Nat}, Rel r d N h h → 1 ≤ N → N + 31 * (n : Int) < 1000000000 → 0 ≤ i → i ≤ 1000000 → (L : Int) < i + 6 * (n : Int) + 6 → Rn (ev 312 23 [AS 0, AR 1, AR 268, AR 282, AI i, v5, v6, v7, v8] [] (KS r d, h, c0, s0, L, f)) (LawE c0 s0 n L f) := by
  intro n
  induction n with
  | zero =>
    intro r d h N i v5 v6 v7 v8 c0 s0 q hN hN2 hi hi2 hL
    refine w_iload f312_23 rfl ?_
    refine w_aloadns f312_25 rfl ?_
    refine w_slen f312_26 ?_
    refine w_bipush (v := 6) f312_27 (by decide) ?_
    refine w_isubn f312_29 (by omega) ?_
    refine w_ic_gt (t := 2505) f312_30 (by decide) (fun c1 => ?_) (fun c1 => by omega)
    refine w_iconst (v := 1) f312_2505 (by decide) ?_
    refine w_zret f312_2506 rfl (by decide) ?_
    exact ⟨r, d, h, c0, s0, rfl, by omega, by omega⟩
  | succ n ih =>
    intro r d h N i v5 v6 v7 v8 c0 s0 q hN hN2 hi hi2 hL
    by_cases hz : i + 6 ≤ (L : Int)
    · have g : LawG N i c0 s0 L f (LawE c0 s0 (n + 1) L f) := by
        intro r1 d1 h1 c1 s1 u5 u6 u7 u8 q1 hc
        refine w_iincn f312_2499 rfl (by omega) (sto_9_4 rfl) ?_
        refine w_goto (t := 23) f312_2502 (by decide) ?_
        refine (ih q1 (by omega) (by omega) (by omega) (by omega) (by omega)).mono (fun o z => ?_)
        obtain ⟨r2, d2, h2, c2, s2, rfl, z1, z2⟩ := z
        exact ⟨r2, d2, h2, c2, s2, rfl, by omega, by omega⟩
      refine w_iload f312_23 rfl ?_
      refine w_aloadns f312_25 rfl ?_
      refine w_slen f312_26 ?_
      refine w_bipush (v := 6) f312_27 (by decide) ?_
      refine w_isubn f312_29 (by omega) ?_
      refine w_ic_gt (t := 2505) f312_30 (by decide) (fun c1 => absurd c1 (by omega)) (fun c1 => ?_)
      refine w_aloadns f312_33 rfl ?_
      refine w_iload f312_34 rfl ?_
      refine w_sald f312_36 (by omega) rfl ?_
      refine w_bipush (v := 63) f312_37 (by decide) ?_
      refine w_iand63 f312_39 ?_
      rcases (show f i.toNat % 64 = 0 ∨ f i.toNat % 64 = 1 ∨ f i.toNat % 64 = 2 ∨ f i.toNat % 64 = 3 ∨ f i.toNat % 64 = 4 ∨ f i.toNat % 64 = 5 ∨ f i.toNat % 64 = 6 ∨ f i.toNat % 64 = 7 ∨ f i.toNat % 64 = 8 ∨ f i.toNat % 64 = 9 ∨ f i.toNat % 64 = 10 ∨ f i.toNat % 64 = 11 ∨ f i.toNat % 64 = 12 ∨ f i.toNat % 64 = 13 ∨ f i.toNat % 64 = 14 ∨ f i.toNat % 64 = 15 ∨ f i.toNat % 64 = 16 ∨ f i.toNat % 64 = 17 ∨ f i.toNat % 64 = 18 ∨ f i.toNat % 64 = 19 ∨ f i.toNat % 64 = 20 ∨ f i.toNat % 64 = 21 ∨ f i.toNat % 64 = 22 ∨ f i.toNat % 64 = 23 ∨ f i.toNat % 64 = 24 ∨ f i.toNat % 64 = 25 ∨ f i.toNat % 64 = 26 ∨ f i.toNat % 64 = 27 ∨ f i.toNat % 64 = 28 ∨ f i.toNat % 64 = 29 ∨ f i.toNat % 64 = 30 ∨ f i.toNat % 64 = 31 ∨ f i.toNat % 64 = 32 ∨ f i.toNat % 64 = 33 ∨ f i.toNat % 64 = 34 ∨ f i.toNat % 64 = 35 ∨ f i.toNat % 64 = 36 ∨ f i.toNat % 64 = 37 ∨ f i.toNat % 64 = 38 ∨ f i.toNat % 64 = 39 ∨ f i.toNat % 64 = 40 ∨ f i.toNat % 64 = 41 ∨ f i.toNat % 64 = 42 ∨ f i.toNat % 64 = 43 ∨ f i.toNat % 64 = 44 ∨ f i.toNat % 64 = 45 ∨ f i.toNat % 64 = 46 ∨ f i.toNat % 64 = 47 ∨ f i.toNat % 64 = 48 ∨ f i.toNat % 64 = 49 ∨ f i.toNat % 64 = 50 ∨ f i.toNat % 64 = 51 ∨ f i.toNat % 64 = 52 ∨ f i.toNat % 64 = 53 ∨ f i.toNat % 64 = 54 ∨ f i.toNat % 64 = 55 ∨ f i.toNat % 64 = 56 ∨ f i.toNat % 64 = 57 ∨ f i.toNat % 64 = 58 ∨ (f i.toNat % 64 < 0 ∨ 58 < f i.toNat % 64) by omega) with c2 | c2 | c2 | c2 | c2 | c2 | c2 | c2 | c2 | c2 | c2 | c2 | c2 | c2 | c2 | c2 | c2 | c2 | c2 | c2 | c2 | c2 | c2 | c2 | c2 | c2 | c2 | c2 | c2 | c2 | c2 | c2 | c2 | c2 | c2 | c2 | c2 | c2 | c2 | c2 | c2 | c2 | c2 | c2 | c2 | c2 | c2 | c2 | c2 | c2 | c2 | c2 | c2 | c2 | c2 | c2 | c2 | c2 | c2 | c2
      · refine w_tab (t := 292) f312_40 (by omega) (by rw [c2]; rfl) (by decide) ?_
        exact law0 q ⟨hN, by omega⟩ hi (by omega) (by omega) g
      · refine w_tab (t := 365) f312_40 (by omega) (by rw [c2]; rfl) (by decide) ?_
        exact law1 q ⟨hN, by omega⟩ hi (by omega) (by omega) g
      · refine w_tab (t := 390) f312_40 (by omega) (by rw [c2]; rfl) (by decide) ?_
        exact law2 q ⟨hN, by omega⟩ hi (by omega) (by omega) g
      · refine w_tab (t := 403) f312_40 (by omega) (by rw [c2]; rfl) (by decide) ?_
        exact law3 q ⟨hN, by omega⟩ hi (by omega) (by omega) g
      · refine w_tab (t := 416) f312_40 (by omega) (by rw [c2]; rfl) (by decide) ?_
        exact law4 q ⟨hN, by omega⟩ hi (by omega) (by omega) g
      · refine w_tab (t := 429) f312_40 (by omega) (by rw [c2]; rfl) (by decide) ?_
        exact law5 q ⟨hN, by omega⟩ hi (by omega) (by omega) g
      · refine w_tab (t := 442) f312_40 (by omega) (by rw [c2]; rfl) (by decide) ?_
        exact law6 q ⟨hN, by omega⟩ hi (by omega) (by omega) g
      · refine w_tab (t := 455) f312_40 (by omega) (by rw [c2]; rfl) (by decide) ?_
        exact law7 q ⟨hN, by omega⟩ hi (by omega) (by omega) g
      · refine w_tab (t := 468) f312_40 (by omega) (by rw [c2]; rfl) (by decide) ?_
        exact law8 q ⟨hN, by omega⟩ hi (by omega) (by omega) g
      · refine w_tab (t := 481) f312_40 (by omega) (by rw [c2]; rfl) (by decide) ?_
        exact law9 q ⟨hN, by omega⟩ hi (by omega) (by omega) g
      · refine w_tab (t := 494) f312_40 (by omega) (by rw [c2]; rfl) (by decide) ?_
        exact law10 q ⟨hN, by omega⟩ hi (by omega) (by omega) g
      · refine w_tab (t := 507) f312_40 (by omega) (by rw [c2]; rfl) (by decide) ?_
        exact law11 q ⟨hN, by omega⟩ hi (by omega) (by omega) g
      · refine w_tab (t := 575) f312_40 (by omega) (by rw [c2]; rfl) (by decide) ?_
        exact law12 q ⟨hN, by omega⟩ hi (by omega) (by omega) g
      · refine w_tab (t := 643) f312_40 (by omega) (by rw [c2]; rfl) (by decide) ?_
        exact law13 q ⟨hN, by omega⟩ hi (by omega) (by omega) g
      · refine w_tab (t := 711) f312_40 (by omega) (by rw [c2]; rfl) (by decide) ?_
        exact law14 q ⟨hN, by omega⟩ hi (by omega) (by omega) g
      · refine w_tab (t := 724) f312_40 (by omega) (by rw [c2]; rfl) (by decide) ?_
        exact law15 q ⟨hN, by omega⟩ hi (by omega) (by omega) g
      · refine w_tab (t := 780) f312_40 (by omega) (by rw [c2]; rfl) (by decide) ?_
        exact law16 q ⟨hN, by omega⟩ hi (by omega) (by omega) g
      · refine w_tab (t := 836) f312_40 (by omega) (by rw [c2]; rfl) (by decide) ?_
        exact law17 q ⟨hN, by omega⟩ hi (by omega) (by omega) g
      · refine w_tab (t := 892) f312_40 (by omega) (by rw [c2]; rfl) (by decide) ?_
        exact law18 q ⟨hN, by omega⟩ hi (by omega) (by omega) g
      · refine w_tab (t := 948) f312_40 (by omega) (by rw [c2]; rfl) (by decide) ?_
        exact law19 q ⟨hN, by omega⟩ hi (by omega) (by omega) g
      · refine w_tab (t := 1004) f312_40 (by omega) (by rw [c2]; rfl) (by decide) ?_
        exact law20 q ⟨hN, by omega⟩ hi (by omega) (by omega) g
      · refine w_tab (t := 1067) f312_40 (by omega) (by rw [c2]; rfl) (by decide) ?_
        exact law21 q ⟨hN, by omega⟩ hi (by omega) (by omega) g
      · refine w_tab (t := 1130) f312_40 (by omega) (by rw [c2]; rfl) (by decide) ?_
        exact law22 q ⟨hN, by omega⟩ hi (by omega) (by omega) g
      · refine w_tab (t := 1186) f312_40 (by omega) (by rw [c2]; rfl) (by decide) ?_
        exact law23 q ⟨hN, by omega⟩ hi (by omega) (by omega) g
      · refine w_tab (t := 1249) f312_40 (by omega) (by rw [c2]; rfl) (by decide) ?_
        exact law24 q ⟨hN, by omega⟩ hi (by omega) (by omega) g
      · refine w_tab (t := 1305) f312_40 (by omega) (by rw [c2]; rfl) (by decide) ?_
        exact law25 q ⟨hN, by omega⟩ hi (by omega) (by omega) g
      · refine w_tab (t := 1361) f312_40 (by omega) (by rw [c2]; rfl) (by decide) ?_
        exact law26 q ⟨hN, by omega⟩ hi (by omega) (by omega) g
      · refine w_tab (t := 1417) f312_40 (by omega) (by rw [c2]; rfl) (by decide) ?_
        exact law27 q ⟨hN, by omega⟩ hi (by omega) (by omega) g
      · refine w_tab (t := 1430) f312_40 (by omega) (by rw [c2]; rfl) (by decide) ?_
        exact law28 q ⟨hN, by omega⟩ hi (by omega) (by omega) g
      · refine w_tab (t := 1486) f312_40 (by omega) (by rw [c2]; rfl) (by decide) ?_
        exact law29 q ⟨hN, by omega⟩ hi (by omega) (by omega) g
      · refine w_tab (t := 1542) f312_40 (by omega) (by rw [c2]; rfl) (by decide) ?_
        exact law30 q ⟨hN, by omega⟩ hi (by omega) (by omega) g
      · refine w_tab (t := 1555) f312_40 (by omega) (by rw [c2]; rfl) (by decide) ?_
        exact law31 q ⟨hN, by omega⟩ hi (by omega) (by omega) g
      · refine w_tab (t := 1568) f312_40 (by omega) (by rw [c2]; rfl) (by decide) ?_
        exact law32 q ⟨hN, by omega⟩ hi (by omega) (by omega) g
      · refine w_tab (t := 1624) f312_40 (by omega) (by rw [c2]; rfl) (by decide) ?_
        exact law33 q ⟨hN, by omega⟩ hi (by omega) (by omega) g
      · refine w_tab (t := 1667) f312_40 (by omega) (by rw [c2]; rfl) (by decide) ?_
        exact law34 q ⟨hN, by omega⟩ hi (by omega) (by omega) g
      · refine w_tab (t := 1710) f312_40 (by omega) (by rw [c2]; rfl) (by decide) ?_
        exact law35 q ⟨hN, by omega⟩ hi (by omega) (by omega) g
      · refine w_tab (t := 1723) f312_40 (by omega) (by rw [c2]; rfl) (by decide) ?_
        exact law36 q ⟨hN, by omega⟩ hi (by omega) (by omega) g
      · refine w_tab (t := 1736) f312_40 (by omega) (by rw [c2]; rfl) (by decide) ?_
        exact law37 q ⟨hN, by omega⟩ hi (by omega) (by omega) g
      · refine w_tab (t := 1749) f312_40 (by omega) (by rw [c2]; rfl) (by decide) ?_
        exact law38 q ⟨hN, by omega⟩ hi (by omega) (by omega) g
      · refine w_tab (t := 1774) f312_40 (by omega) (by rw [c2]; rfl) (by decide) ?_
        exact law39 q ⟨hN, by omega⟩ hi (by omega) (by omega) g
      · refine w_tab (t := 1799) f312_40 (by omega) (by rw [c2]; rfl) (by decide) ?_
        exact law40 q ⟨hN, by omega⟩ hi (by omega) (by omega) g
      · refine w_tab (t := 1812) f312_40 (by omega) (by rw [c2]; rfl) (by decide) ?_
        exact law41 q ⟨hN, by omega⟩ hi (by omega) (by omega) g
      · refine w_tab (t := 1875) f312_40 (by omega) (by rw [c2]; rfl) (by decide) ?_
        exact law42 q ⟨hN, by omega⟩ hi (by omega) (by omega) g
      · refine w_tab (t := 1938) f312_40 (by omega) (by rw [c2]; rfl) (by decide) ?_
        exact law43 q ⟨hN, by omega⟩ hi (by omega) (by omega) g
      · refine w_tab (t := 1994) f312_40 (by omega) (by rw [c2]; rfl) (by decide) ?_
        exact law44 q ⟨hN, by omega⟩ hi (by omega) (by omega) g
      · refine w_tab (t := 2050) f312_40 (by omega) (by rw [c2]; rfl) (by decide) ?_
        exact law45 q ⟨hN, by omega⟩ hi (by omega) (by omega) g
      · refine w_tab (t := 2063) f312_40 (by omega) (by rw [c2]; rfl) (by decide) ?_
        exact law46 q ⟨hN, by omega⟩ hi (by omega) (by omega) g
      · refine w_tab (t := 2076) f312_40 (by omega) (by rw [c2]; rfl) (by decide) ?_
        exact law47 q ⟨hN, by omega⟩ hi (by omega) (by omega) g
      · refine w_tab (t := 2089) f312_40 (by omega) (by rw [c2]; rfl) (by decide) ?_
        exact law48 q ⟨hN, by omega⟩ hi (by omega) (by omega) g
      · refine w_tab (t := 2130) f312_40 (by omega) (by rw [c2]; rfl) (by decide) ?_
        exact law49 q ⟨hN, by omega⟩ hi (by omega) (by omega) g
      · refine w_tab (t := 2186) f312_40 (by omega) (by rw [c2]; rfl) (by decide) ?_
        exact law50 q ⟨hN, by omega⟩ hi (by omega) (by omega) g
      · refine w_tab (t := 2254) f312_40 (by omega) (by rw [c2]; rfl) (by decide) ?_
        exact law51 q ⟨hN, by omega⟩ hi (by omega) (by omega) g
      · refine w_tab (t := 2267) f312_40 (by omega) (by rw [c2]; rfl) (by decide) ?_
        exact law52 q ⟨hN, by omega⟩ hi (by omega) (by omega) g
      · refine w_tab (t := 2280) f312_40 (by omega) (by rw [c2]; rfl) (by decide) ?_
        exact law53 q ⟨hN, by omega⟩ hi (by omega) (by omega) g
      · refine w_tab (t := 2360) f312_40 (by omega) (by rw [c2]; rfl) (by decide) ?_
        exact law54 q ⟨hN, by omega⟩ hi (by omega) (by omega) g
      · refine w_tab (t := 2404) f312_40 (by omega) (by rw [c2]; rfl) (by decide) ?_
        exact law55 q ⟨hN, by omega⟩ hi (by omega) (by omega) g
      · refine w_tab (t := 2417) f312_40 (by omega) (by rw [c2]; rfl) (by decide) ?_
        exact law56 q ⟨hN, by omega⟩ hi (by omega) (by omega) g
      · refine w_tab (t := 2442) f312_40 (by omega) (by rw [c2]; rfl) (by decide) ?_
        exact law57 q ⟨hN, by omega⟩ hi (by omega) (by omega) g
      · refine w_tab (t := 2455) f312_40 (by omega) (by rw [c2]; rfl) (by decide) ?_
        exact law58 q ⟨hN, by omega⟩ hi (by omega) (by omega) g
      · refine w_tabd (t := 2499) f312_40 (by omega) (by decide) ?_
        exact g _ _ _ _ _ _ _ _ _ (q.up (by omega)) ⟨by omega, by omega⟩
    · refine w_iload f312_23 rfl ?_
      refine w_aloadns f312_25 rfl ?_
      refine w_slen f312_26 ?_
      refine w_bipush (v := 6) f312_27 (by decide) ?_
      refine w_isubn f312_29 (by omega) ?_
      refine w_ic_gt (t := 2505) f312_30 (by decide) (fun c1 => ?_) (fun c1 => by omega)
      refine w_iconst (v := 1) f312_2505 (by decide) ?_
      refine w_zret f312_2506 rfl (by decide) ?_
      exact ⟨r, d, h, c0, s0, rfl, by omega, by omega⟩
end A
