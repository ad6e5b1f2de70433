theorem s_C_perform {Γ : zG} {l : Launch} (hl : l.stackTraces = false) {d : Nat} (hd : 4 ≤ d) {h : zH} {n : Nat} {B r : Nat} {g : Nat → Nat} (hR : CR h r g) (hI : IG B g) (hB : B < 2 ^ 20) {k : Nat} (hk : k ≤ 9) (x y : Int32) : zC Γ l d mC_perform [.ref r, .int (nI k), .int x, .int y] h n 0 0 (zCq r h n k (zdo g k x y)) := by
  have hC : ∃ F, h r = some (zCo F (r + 1)) := by
    obtain ⟨p, Q, hC, -⟩ := hR
    exact ⟨_, hC.1⟩
  obtain ⟨F, hC⟩ := hC
  refine zC_of (ls := [some (.ref r), some (.int (nI k)), some (.int x), some (.int y)]) hl (by decide +kernel) rfl (Nat.le_of_ble_eq_true rfl) rfl ?_
  match k, hk with
  | 0, _ =>
    refine zs_iload_n (pc := 0) dC_perform_0 rfl ?_
    refine zs_tableIn (pc := 1) (off := 51) 52 dC_perform_1 (by decide) (by decide) (by decide) rfl ?_
    refine zs_aload_n (pc := 52) dC_perform_52 rfl ?_
    refine zs_iload_n (pc := 53) dC_perform_53 rfl ?_
    refine zcVQ_1 (pc := 54) (d2 := d - 1) (s_C_putEntry hl (by omega) hR hI hB x) dC_perform_54 kC_47 mdC_putEntry miC_putEntry mvC_putEntry rfl (by exact hC) rfl (Nat.le_of_ble_eq_true rfl) (by omega) (by omega) (by omega) (fun v h1 n1 hq => ?_) (fun E h1 n1 hq => ?_)
    · obtain rfl := Sum.inl.inj hq.1
      exact zs_iret (pc := 57) dC_perform_57 rfl rfl (by omega) (by omega) (hq)
    · exact absurd hq.1 (by intro q; cases q)
  | 1, _ =>
    refine zs_iload_n (pc := 0) dC_perform_0 rfl ?_
    refine zs_tableIn (pc := 1) (off := 57) 58 dC_perform_1 (by decide) (by decide) (by decide) rfl ?_
    refine zs_aload_n (pc := 58) dC_perform_58 rfl ?_
    refine zs_iload_n (pc := 59) dC_perform_59 rfl ?_
    refine zs_iload_n (pc := 60) dC_perform_60 rfl ?_
    refine zcVQ_2 (pc := 61) (d2 := d - 1) (s_C_putCode hl (by omega) hR hI hB x y) dC_perform_61 kC_51 mdC_putCode miC_putCode mvC_putCode rfl (by exact hC) rfl (Nat.le_of_ble_eq_true rfl) (by omega) (by omega) (by omega) (fun v h1 n1 hq => ?_) (fun E h1 n1 hq => ?_)
    · obtain rfl := Sum.inl.inj hq.1
      exact zs_iret (pc := 64) dC_perform_64 rfl rfl (by omega) (by omega) (hq)
    · exact absurd hq.1 (by intro q; cases q)
  | 2, _ =>
    refine zs_iload_n (pc := 0) dC_perform_0 rfl ?_
    refine zs_tableIn (pc := 1) (off := 64) 65 dC_perform_1 (by decide) (by decide) (by decide) rfl ?_
    refine zs_aload_n (pc := 65) dC_perform_65 rfl ?_
    refine zs_iload_n (pc := 66) dC_perform_66 rfl ?_
    refine zs_iload_n (pc := 67) dC_perform_67 rfl ?_
    refine zcVQ_2 (pc := 68) (d2 := d - 1) (s_C_takeCode hl (by omega) hR hI hB x y) dC_perform_68 kC_55 mdC_takeCode miC_takeCode mvC_takeCode rfl (by exact hC) rfl (Nat.le_of_ble_eq_true rfl) (by omega) (by omega) (by omega) (fun v h1 n1 hq => ?_) (fun E h1 n1 hq => ?_)
    · obtain rfl := Sum.inl.inj hq.1
      exact zs_iret (pc := 71) dC_perform_71 rfl rfl (by omega) (by omega) (hq)
    · exact absurd hq.1 (by intro q; cases q)
  | 3, _ =>
    refine zs_iload_n (pc := 0) dC_perform_0 rfl ?_
    refine zs_tableIn (pc := 1) (off := 71) 72 dC_perform_1 (by decide) (by decide) (by decide) rfl ?_
    refine zs_aload_n (pc := 72) dC_perform_72 rfl ?_
    refine zs_iload_n (pc := 73) dC_perform_73 rfl ?_
    refine zcVQ_1 (pc := 74) (d2 := d - 1) (s_C_takeEntry hl (by omega) hR hI hB x) dC_perform_74 kC_58 mdC_takeEntry miC_takeEntry mvC_takeEntry rfl (by exact hC) rfl (Nat.le_of_ble_eq_true rfl) (by omega) (by omega) (by omega) (fun v h1 n1 hq => ?_) (fun E h1 n1 hq => ?_)
    · obtain rfl := Sum.inl.inj hq.1
      exact zs_iret (pc := 77) dC_perform_77 rfl rfl (by omega) (by omega) (hq)
    · exact absurd hq.1 (by intro q; cases q)
  | 4, _ =>
    refine zs_iload_n (pc := 0) dC_perform_0 rfl ?_
    refine zs_tableIn (pc := 1) (off := 77) 78 dC_perform_1 (by decide) (by decide) (by decide) rfl ?_
    refine zs_aload_n (pc := 78) dC_perform_78 rfl ?_
    refine zs_iload_n (pc := 79) dC_perform_79 rfl ?_
    refine zcVQ_1 (pc := 80) (d2 := d - 1) (s_C_freshen hl (by omega) hR hI hB x) dC_perform_80 kC_61 mdC_freshen miC_freshen mvC_freshen rfl (by exact hC) rfl (Nat.le_of_ble_eq_true rfl) (by omega) (by omega) (by omega) (fun v h1 n1 hq => ?_) (fun E h1 n1 hq => ?_)
    · obtain rfl := Sum.inl.inj hq.1
      exact zs_iret (pc := 83) dC_perform_83 rfl rfl (by omega) (by omega) (hq)
    · exact absurd hq.1 (by intro q; cases q)
  | 5, _ =>
    refine zs_iload_n (pc := 0) dC_perform_0 rfl ?_
    refine zs_tableIn (pc := 1) (off := 83) 84 dC_perform_1 (by decide) (by decide) (by decide) rfl ?_
    refine zs_aload_n (pc := 84) dC_perform_84 rfl ?_
    refine zs_iload_n (pc := 85) dC_perform_85 rfl ?_
    refine zs_iload_n (pc := 86) dC_perform_86 rfl ?_
    refine zcVQ_2 (pc := 87) (d2 := d - 1) (s_C_mergeInto hl (by omega) hR hI hB x y) dC_perform_87 kC_64 mdC_mergeInto miC_mergeInto mvC_mergeInto rfl (by exact hC) rfl (Nat.le_of_ble_eq_true rfl) (by omega) (by omega) (by omega) (fun v h1 n1 hq => ?_) (fun E h1 n1 hq => ?_)
    · obtain rfl := Sum.inl.inj hq.1
      exact zs_iret (pc := 90) dC_perform_90 rfl rfl (by omega) (by omega) (hq)
    · exact absurd hq.1 (by intro q; cases q)
  | 6, _ =>
    refine zs_iload_n (pc := 0) dC_perform_0 rfl ?_
    refine zs_tableIn (pc := 1) (off := 90) 91 dC_perform_1 (by decide) (by decide) (by decide) rfl ?_
    refine zs_aload_n (pc := 91) dC_perform_91 rfl ?_
    refine zcVQ_0 (pc := 92) (d2 := d - 1) (s_C_openSegment hl hR hI hB) dC_perform_92 kC_67 mdC_openSegment miC_openSegment mvC_openSegment rfl (by exact hC) rfl (Nat.le_of_ble_eq_true rfl) (by omega) (by omega) (by omega) (fun v h1 n1 hq => ?_) (fun E h1 n1 hq => ?_)
    · obtain rfl := Sum.inl.inj hq.1
      exact zs_iret (pc := 95) dC_perform_95 rfl rfl (by omega) (by omega) (hq)
    · exact absurd hq.1 (by intro q; cases q)
  | 7, _ =>
    refine zs_iload_n (pc := 0) dC_perform_0 rfl ?_
    refine zs_tableIn (pc := 1) (off := 95) 96 dC_perform_1 (by decide) (by decide) (by decide) rfl ?_
    refine zs_aload_n (pc := 96) dC_perform_96 rfl ?_
    refine zs_iload_n (pc := 97) dC_perform_97 rfl ?_
    refine zcVQ_1 (pc := 98) (d2 := d - 1) (s_C_joinWithNext hl hR hI hB x) dC_perform_98 kC_71 mdC_joinWithNext miC_joinWithNext mvC_joinWithNext rfl (by exact hC) rfl (Nat.le_of_ble_eq_true rfl) (by omega) (by omega) (by omega) (fun v h1 n1 hq => ?_) (fun E h1 n1 hq => ?_)
    · obtain rfl := Sum.inl.inj hq.1
      exact zs_iret (pc := 101) dC_perform_101 rfl rfl (by omega) (by omega) (hq)
    · exact absurd hq.1 (by intro q; cases q)
  | 8, _ =>
    refine zs_iload_n (pc := 0) dC_perform_0 rfl ?_
    refine zs_tableIn (pc := 1) (off := 101) 102 dC_perform_1 (by decide) (by decide) (by decide) rfl ?_
    refine zs_aload_n (pc := 102) dC_perform_102 rfl ?_
    refine zs_iload_n (pc := 103) dC_perform_103 rfl ?_
    refine zs_iload_n (pc := 104) dC_perform_104 rfl ?_
    refine zcVQ_2 (pc := 105) (d2 := d - 1) (s_C_hitAll hl (by omega) hR hI hB x y) dC_perform_105 kC_74 mdC_hitAll miC_hitAll mvC_hitAll rfl (by exact hC) rfl (Nat.le_of_ble_eq_true rfl) (by omega) (by omega) (by omega) (fun v h1 n1 hq => ?_) (fun E h1 n1 hq => ?_)
    · obtain rfl := Sum.inl.inj hq.1
      exact zs_iret (pc := 108) dC_perform_108 rfl rfl (by omega) (by omega) (hq)
    · exact absurd hq.1 (by intro q; cases q)
  | 9, _ =>
    refine zs_iload_n (pc := 0) dC_perform_0 rfl ?_
    refine zs_tableOut (pc := 1) 109 dC_perform_1 (by decide) rfl ?_
    refine zs_aload_n (pc := 109) dC_perform_109 rfl ?_
    refine zs_iload_n (pc := 110) dC_perform_110 rfl ?_
    refine zcVQ_1 (pc := 111) (d2 := d - 1) (s_C_passDays hl (by omega) hR hI hB x) dC_perform_111 kC_77 mdC_passDays miC_passDays mvC_passDays rfl (by exact hC) rfl (Nat.le_of_ble_eq_true rfl) (by omega) (by omega) (by omega) (fun v h1 n1 hq => ?_) (fun E h1 n1 hq => ?_)
    · obtain rfl := Sum.inl.inj hq.1
      exact zs_iret (pc := 114) dC_perform_114 rfl rfl (by omega) (by omega) (hq)
    · exact absurd hq.1 (by intro q; cases q)
  | k + 10, hk => exact absurd hk (by omega)

