def dm_chk (mi pc : Nat) : Bool := match dm_code mi pc with
  | none => true
  | some i => match dm_ms[mi]? with
    | none => false
    | some r => decide (decode r.2.1 pc = .ok (i, dm_len pc i))
theorem dm_seg {f : Nat → Bool} (b n : Nat) (h : (List.range n).all (fun q => f (b + q)) = true) {pc : Nat} (h1 : b ≤ pc) (h2 : pc < b + n) : f pc = true := by
  have h3 := List.all_eq_true.mp h (pc - b) (List.mem_range.mpr (by omega))
  rwa [show b + (pc - b) = pc by omega] at h3
theorem dd_0_0 : (List.range 700).all (fun q => dm_chk 0 (0 + q)) = true := by decide +kernel
theorem dd_0 (pc : Nat) (h : pc < 700) : dm_chk 0 pc = true := (fun h1 : 0 ≤ pc => (Nat.lt_or_ge pc 700).elim (fun h2 => dm_seg 0 700 dd_0_0 h1 h2) (fun h1 => absurd h (by omega))) (Nat.zero_le pc)
theorem dd_1_0 : (List.range 700).all (fun q => dm_chk 1 (0 + q)) = true := by decide +kernel
theorem dd_1 (pc : Nat) (h : pc < 700) : dm_chk 1 pc = true := (fun h1 : 0 ≤ pc => (Nat.lt_or_ge pc 700).elim (fun h2 => dm_seg 0 700 dd_1_0 h1 h2) (fun h1 => absurd h (by omega))) (Nat.zero_le pc)
theorem dd_2_0 : (List.range 700).all (fun q => dm_chk 2 (0 + q)) = true := by decide +kernel
theorem dd_2 (pc : Nat) (h : pc < 700) : dm_chk 2 pc = true := (fun h1 : 0 ≤ pc => (Nat.lt_or_ge pc 700).elim (fun h2 => dm_seg 0 700 dd_2_0 h1 h2) (fun h1 => absurd h (by omega))) (Nat.zero_le pc)
theorem dd_3_0 : (List.range 700).all (fun q => dm_chk 3 (0 + q)) = true := by decide +kernel
theorem dd_3 (pc : Nat) (h : pc < 700) : dm_chk 3 pc = true := (fun h1 : 0 ≤ pc => (Nat.lt_or_ge pc 700).elim (fun h2 => dm_seg 0 700 dd_3_0 h1 h2) (fun h1 => absurd h (by omega))) (Nat.zero_le pc)
theorem dd_4_0 : (List.range 700).all (fun q => dm_chk 4 (0 + q)) = true := by decide +kernel
theorem dd_4 (pc : Nat) (h : pc < 700) : dm_chk 4 pc = true := (fun h1 : 0 ≤ pc => (Nat.lt_or_ge pc 700).elim (fun h2 => dm_seg 0 700 dd_4_0 h1 h2) (fun h1 => absurd h (by omega))) (Nat.zero_le pc)
theorem dd_5_0 : (List.range 700).all (fun q => dm_chk 5 (0 + q)) = true := by decide +kernel
theorem dd_5 (pc : Nat) (h : pc < 700) : dm_chk 5 pc = true := (fun h1 : 0 ≤ pc => (Nat.lt_or_ge pc 700).elim (fun h2 => dm_seg 0 700 dd_5_0 h1 h2) (fun h1 => absurd h (by omega))) (Nat.zero_le pc)
theorem dd_6_0 : (List.range 700).all (fun q => dm_chk 6 (0 + q)) = true := by decide +kernel
theorem dd_6 (pc : Nat) (h : pc < 700) : dm_chk 6 pc = true := (fun h1 : 0 ≤ pc => (Nat.lt_or_ge pc 700).elim (fun h2 => dm_seg 0 700 dd_6_0 h1 h2) (fun h1 => absurd h (by omega))) (Nat.zero_le pc)
theorem dd_7_0 : (List.range 700).all (fun q => dm_chk 7 (0 + q)) = true := by decide +kernel
theorem dd_7 (pc : Nat) (h : pc < 700) : dm_chk 7 pc = true := (fun h1 : 0 ≤ pc => (Nat.lt_or_ge pc 700).elim (fun h2 => dm_seg 0 700 dd_7_0 h1 h2) (fun h1 => absurd h (by omega))) (Nat.zero_le pc)
theorem dd_8_0 : (List.range 700).all (fun q => dm_chk 8 (0 + q)) = true := by decide +kernel
theorem dd_8 (pc : Nat) (h : pc < 700) : dm_chk 8 pc = true := (fun h1 : 0 ≤ pc => (Nat.lt_or_ge pc 700).elim (fun h2 => dm_seg 0 700 dd_8_0 h1 h2) (fun h1 => absurd h (by omega))) (Nat.zero_le pc)
theorem dd_9_0 : (List.range 700).all (fun q => dm_chk 9 (0 + q)) = true := by decide +kernel
theorem dd_9 (pc : Nat) (h : pc < 700) : dm_chk 9 pc = true := (fun h1 : 0 ≤ pc => (Nat.lt_or_ge pc 700).elim (fun h2 => dm_seg 0 700 dd_9_0 h1 h2) (fun h1 => absurd h (by omega))) (Nat.zero_le pc)
theorem dd_10_0 : (List.range 700).all (fun q => dm_chk 10 (0 + q)) = true := by decide +kernel
theorem dd_10 (pc : Nat) (h : pc < 700) : dm_chk 10 pc = true := (fun h1 : 0 ≤ pc => (Nat.lt_or_ge pc 700).elim (fun h2 => dm_seg 0 700 dd_10_0 h1 h2) (fun h1 => absurd h (by omega))) (Nat.zero_le pc)
theorem dd_11_0 : (List.range 700).all (fun q => dm_chk 11 (0 + q)) = true := by decide +kernel
theorem dd_11 (pc : Nat) (h : pc < 700) : dm_chk 11 pc = true := (fun h1 : 0 ≤ pc => (Nat.lt_or_ge pc 700).elim (fun h2 => dm_seg 0 700 dd_11_0 h1 h2) (fun h1 => absurd h (by omega))) (Nat.zero_le pc)
theorem dd_12_0 : (List.range 700).all (fun q => dm_chk 12 (0 + q)) = true := by decide +kernel
theorem dd_12 (pc : Nat) (h : pc < 700) : dm_chk 12 pc = true := (fun h1 : 0 ≤ pc => (Nat.lt_or_ge pc 700).elim (fun h2 => dm_seg 0 700 dd_12_0 h1 h2) (fun h1 => absurd h (by omega))) (Nat.zero_le pc)
theorem dd_13_0 : (List.range 700).all (fun q => dm_chk 13 (0 + q)) = true := by decide +kernel
theorem dd_13 (pc : Nat) (h : pc < 700) : dm_chk 13 pc = true := (fun h1 : 0 ≤ pc => (Nat.lt_or_ge pc 700).elim (fun h2 => dm_seg 0 700 dd_13_0 h1 h2) (fun h1 => absurd h (by omega))) (Nat.zero_le pc)
theorem dd_14_0 : (List.range 700).all (fun q => dm_chk 14 (0 + q)) = true := by decide +kernel
theorem dd_14 (pc : Nat) (h : pc < 700) : dm_chk 14 pc = true := (fun h1 : 0 ≤ pc => (Nat.lt_or_ge pc 700).elim (fun h2 => dm_seg 0 700 dd_14_0 h1 h2) (fun h1 => absurd h (by omega))) (Nat.zero_le pc)
theorem dd_15_100 : (List.range 600).all (fun q => dm_chk 15 (100 + q)) = true := by decide +kernel
theorem dd_15_0 : (List.range 100).all (fun q => dm_chk 15 (0 + q)) = true := by decide +kernel
theorem dd_15 (pc : Nat) (h : pc < 700) : dm_chk 15 pc = true := (fun h1 : 0 ≤ pc => (Nat.lt_or_ge pc 100).elim (fun h2 => dm_seg 0 100 dd_15_0 h1 h2) (fun h1 => (Nat.lt_or_ge pc 700).elim (fun h2 => dm_seg 100 600 dd_15_100 h1 h2) (fun h1 => absurd h (by omega)))) (Nat.zero_le pc)
theorem dd_16_100 : (List.range 600).all (fun q => dm_chk 16 (100 + q)) = true := by decide +kernel
theorem dd_16_0 : (List.range 100).all (fun q => dm_chk 16 (0 + q)) = true := by decide +kernel
theorem dd_16 (pc : Nat) (h : pc < 700) : dm_chk 16 pc = true := (fun h1 : 0 ≤ pc => (Nat.lt_or_ge pc 100).elim (fun h2 => dm_seg 0 100 dd_16_0 h1 h2) (fun h1 => (Nat.lt_or_ge pc 700).elim (fun h2 => dm_seg 100 600 dd_16_100 h1 h2) (fun h1 => absurd h (by omega)))) (Nat.zero_le pc)
theorem dd_17_0 : (List.range 700).all (fun q => dm_chk 17 (0 + q)) = true := by decide +kernel
theorem dd_17 (pc : Nat) (h : pc < 700) : dm_chk 17 pc = true := (fun h1 : 0 ≤ pc => (Nat.lt_or_ge pc 700).elim (fun h2 => dm_seg 0 700 dd_17_0 h1 h2) (fun h1 => absurd h (by omega))) (Nat.zero_le pc)
theorem dd_18_0 : (List.range 700).all (fun q => dm_chk 18 (0 + q)) = true := by decide +kernel
theorem dd_18 (pc : Nat) (h : pc < 700) : dm_chk 18 pc = true := (fun h1 : 0 ≤ pc => (Nat.lt_or_ge pc 700).elim (fun h2 => dm_seg 0 700 dd_18_0 h1 h2) (fun h1 => absurd h (by omega))) (Nat.zero_le pc)
theorem dd_19_0 : (List.range 700).all (fun q => dm_chk 19 (0 + q)) = true := by decide +kernel
theorem dd_19 (pc : Nat) (h : pc < 700) : dm_chk 19 pc = true := (fun h1 : 0 ≤ pc => (Nat.lt_or_ge pc 700).elim (fun h2 => dm_seg 0 700 dd_19_0 h1 h2) (fun h1 => absurd h (by omega))) (Nat.zero_le pc)
theorem dd_20_100 : (List.range 600).all (fun q => dm_chk 20 (100 + q)) = true := by decide +kernel
theorem dd_20_0 : (List.range 100).all (fun q => dm_chk 20 (0 + q)) = true := by decide +kernel
theorem dd_20 (pc : Nat) (h : pc < 700) : dm_chk 20 pc = true := (fun h1 : 0 ≤ pc => (Nat.lt_or_ge pc 100).elim (fun h2 => dm_seg 0 100 dd_20_0 h1 h2) (fun h1 => (Nat.lt_or_ge pc 700).elim (fun h2 => dm_seg 100 600 dd_20_100 h1 h2) (fun h1 => absurd h (by omega)))) (Nat.zero_le pc)
theorem dd_21_0 : (List.range 700).all (fun q => dm_chk 21 (0 + q)) = true := by decide +kernel
theorem dd_21 (pc : Nat) (h : pc < 700) : dm_chk 21 pc = true := (fun h1 : 0 ≤ pc => (Nat.lt_or_ge pc 700).elim (fun h2 => dm_seg 0 700 dd_21_0 h1 h2) (fun h1 => absurd h (by omega))) (Nat.zero_le pc)
theorem dd_22_0 : (List.range 700).all (fun q => dm_chk 22 (0 + q)) = true := by decide +kernel
theorem dd_22 (pc : Nat) (h : pc < 700) : dm_chk 22 pc = true := (fun h1 : 0 ≤ pc => (Nat.lt_or_ge pc 700).elim (fun h2 => dm_seg 0 700 dd_22_0 h1 h2) (fun h1 => absurd h (by omega))) (Nat.zero_le pc)
theorem dd_23_0 : (List.range 700).all (fun q => dm_chk 23 (0 + q)) = true := by decide +kernel
theorem dd_23 (pc : Nat) (h : pc < 700) : dm_chk 23 pc = true := (fun h1 : 0 ≤ pc => (Nat.lt_or_ge pc 700).elim (fun h2 => dm_seg 0 700 dd_23_0 h1 h2) (fun h1 => absurd h (by omega))) (Nat.zero_le pc)
theorem dd_24_0 : (List.range 700).all (fun q => dm_chk 24 (0 + q)) = true := by decide +kernel
theorem dd_24 (pc : Nat) (h : pc < 700) : dm_chk 24 pc = true := (fun h1 : 0 ≤ pc => (Nat.lt_or_ge pc 700).elim (fun h2 => dm_seg 0 700 dd_24_0 h1 h2) (fun h1 => absurd h (by omega))) (Nat.zero_le pc)
theorem dd_25_100 : (List.range 600).all (fun q => dm_chk 25 (100 + q)) = true := by decide +kernel
theorem dd_25_0 : (List.range 100).all (fun q => dm_chk 25 (0 + q)) = true := by decide +kernel
theorem dd_25 (pc : Nat) (h : pc < 700) : dm_chk 25 pc = true := (fun h1 : 0 ≤ pc => (Nat.lt_or_ge pc 100).elim (fun h2 => dm_seg 0 100 dd_25_0 h1 h2) (fun h1 => (Nat.lt_or_ge pc 700).elim (fun h2 => dm_seg 100 600 dd_25_100 h1 h2) (fun h1 => absurd h (by omega)))) (Nat.zero_le pc)
theorem dd_26_0 : (List.range 700).all (fun q => dm_chk 26 (0 + q)) = true := by decide +kernel
theorem dd_26 (pc : Nat) (h : pc < 700) : dm_chk 26 pc = true := (fun h1 : 0 ≤ pc => (Nat.lt_or_ge pc 700).elim (fun h2 => dm_seg 0 700 dd_26_0 h1 h2) (fun h1 => absurd h (by omega))) (Nat.zero_le pc)
theorem dd_27_0 : (List.range 700).all (fun q => dm_chk 27 (0 + q)) = true := by decide +kernel
theorem dd_27 (pc : Nat) (h : pc < 700) : dm_chk 27 pc = true := (fun h1 : 0 ≤ pc => (Nat.lt_or_ge pc 700).elim (fun h2 => dm_seg 0 700 dd_27_0 h1 h2) (fun h1 => absurd h (by omega))) (Nat.zero_le pc)
theorem dd_28_0 : (List.range 700).all (fun q => dm_chk 28 (0 + q)) = true := by decide +kernel
theorem dd_28 (pc : Nat) (h : pc < 700) : dm_chk 28 pc = true := (fun h1 : 0 ≤ pc => (Nat.lt_or_ge pc 700).elim (fun h2 => dm_seg 0 700 dd_28_0 h1 h2) (fun h1 => absurd h (by omega))) (Nat.zero_le pc)
theorem dd_29_0 : (List.range 700).all (fun q => dm_chk 29 (0 + q)) = true := by decide +kernel
theorem dd_29 (pc : Nat) (h : pc < 700) : dm_chk 29 pc = true := (fun h1 : 0 ≤ pc => (Nat.lt_or_ge pc 700).elim (fun h2 => dm_seg 0 700 dd_29_0 h1 h2) (fun h1 => absurd h (by omega))) (Nat.zero_le pc)
theorem dd_30_0 : (List.range 700).all (fun q => dm_chk 30 (0 + q)) = true := by decide +kernel
theorem dd_30 (pc : Nat) (h : pc < 700) : dm_chk 30 pc = true := (fun h1 : 0 ≤ pc => (Nat.lt_or_ge pc 700).elim (fun h2 => dm_seg 0 700 dd_30_0 h1 h2) (fun h1 => absurd h (by omega))) (Nat.zero_le pc)
theorem dd_31_0 : (List.range 700).all (fun q => dm_chk 31 (0 + q)) = true := by decide +kernel
theorem dd_31 (pc : Nat) (h : pc < 700) : dm_chk 31 pc = true := (fun h1 : 0 ≤ pc => (Nat.lt_or_ge pc 700).elim (fun h2 => dm_seg 0 700 dd_31_0 h1 h2) (fun h1 => absurd h (by omega))) (Nat.zero_le pc)
theorem dd_32_0 : (List.range 700).all (fun q => dm_chk 32 (0 + q)) = true := by decide +kernel
theorem dd_32 (pc : Nat) (h : pc < 700) : dm_chk 32 pc = true := (fun h1 : 0 ≤ pc => (Nat.lt_or_ge pc 700).elim (fun h2 => dm_seg 0 700 dd_32_0 h1 h2) (fun h1 => absurd h (by omega))) (Nat.zero_le pc)
theorem dd_33_0 : (List.range 700).all (fun q => dm_chk 33 (0 + q)) = true := by decide +kernel
theorem dd_33 (pc : Nat) (h : pc < 700) : dm_chk 33 pc = true := (fun h1 : 0 ≤ pc => (Nat.lt_or_ge pc 700).elim (fun h2 => dm_seg 0 700 dd_33_0 h1 h2) (fun h1 => absurd h (by omega))) (Nat.zero_le pc)
theorem dd_34_100 : (List.range 600).all (fun q => dm_chk 34 (100 + q)) = true := by decide +kernel
theorem dd_34_0 : (List.range 100).all (fun q => dm_chk 34 (0 + q)) = true := by decide +kernel
theorem dd_34 (pc : Nat) (h : pc < 700) : dm_chk 34 pc = true := (fun h1 : 0 ≤ pc => (Nat.lt_or_ge pc 100).elim (fun h2 => dm_seg 0 100 dd_34_0 h1 h2) (fun h1 => (Nat.lt_or_ge pc 700).elim (fun h2 => dm_seg 100 600 dd_34_100 h1 h2) (fun h1 => absurd h (by omega)))) (Nat.zero_le pc)
theorem dd_35_100 : (List.range 600).all (fun q => dm_chk 35 (100 + q)) = true := by decide +kernel
theorem dd_35_0 : (List.range 100).all (fun q => dm_chk 35 (0 + q)) = true := by decide +kernel
theorem dd_35 (pc : Nat) (h : pc < 700) : dm_chk 35 pc = true := (fun h1 : 0 ≤ pc => (Nat.lt_or_ge pc 100).elim (fun h2 => dm_seg 0 100 dd_35_0 h1 h2) (fun h1 => (Nat.lt_or_ge pc 700).elim (fun h2 => dm_seg 100 600 dd_35_100 h1 h2) (fun h1 => absurd h (by omega)))) (Nat.zero_le pc)
theorem dd_36_0 : (List.range 700).all (fun q => dm_chk 36 (0 + q)) = true := by decide +kernel
theorem dd_36 (pc : Nat) (h : pc < 700) : dm_chk 36 pc = true := (fun h1 : 0 ≤ pc => (Nat.lt_or_ge pc 700).elim (fun h2 => dm_seg 0 700 dd_36_0 h1 h2) (fun h1 => absurd h (by omega))) (Nat.zero_le pc)
theorem dd_37_0 : (List.range 700).all (fun q => dm_chk 37 (0 + q)) = true := by decide +kernel
theorem dd_37 (pc : Nat) (h : pc < 700) : dm_chk 37 pc = true := (fun h1 : 0 ≤ pc => (Nat.lt_or_ge pc 700).elim (fun h2 => dm_seg 0 700 dd_37_0 h1 h2) (fun h1 => absurd h (by omega))) (Nat.zero_le pc)
theorem dd_38_0 : (List.range 700).all (fun q => dm_chk 38 (0 + q)) = true := by decide +kernel
theorem dd_38 (pc : Nat) (h : pc < 700) : dm_chk 38 pc = true := (fun h1 : 0 ≤ pc => (Nat.lt_or_ge pc 700).elim (fun h2 => dm_seg 0 700 dd_38_0 h1 h2) (fun h1 => absurd h (by omega))) (Nat.zero_le pc)
theorem dd_39_0 : (List.range 700).all (fun q => dm_chk 39 (0 + q)) = true := by decide +kernel
theorem dd_39 (pc : Nat) (h : pc < 700) : dm_chk 39 pc = true := (fun h1 : 0 ≤ pc => (Nat.lt_or_ge pc 700).elim (fun h2 => dm_seg 0 700 dd_39_0 h1 h2) (fun h1 => absurd h (by omega))) (Nat.zero_le pc)
theorem dd_40_100 : (List.range 600).all (fun q => dm_chk 40 (100 + q)) = true := by decide +kernel
theorem dd_40_0 : (List.range 100).all (fun q => dm_chk 40 (0 + q)) = true := by decide +kernel
theorem dd_40 (pc : Nat) (h : pc < 700) : dm_chk 40 pc = true := (fun h1 : 0 ≤ pc => (Nat.lt_or_ge pc 100).elim (fun h2 => dm_seg 0 100 dd_40_0 h1 h2) (fun h1 => (Nat.lt_or_ge pc 700).elim (fun h2 => dm_seg 100 600 dd_40_100 h1 h2) (fun h1 => absurd h (by omega)))) (Nat.zero_le pc)
theorem dd_41_0 : (List.range 700).all (fun q => dm_chk 41 (0 + q)) = true := by decide +kernel
theorem dd_41 (pc : Nat) (h : pc < 700) : dm_chk 41 pc = true := (fun h1 : 0 ≤ pc => (Nat.lt_or_ge pc 700).elim (fun h2 => dm_seg 0 700 dd_41_0 h1 h2) (fun h1 => absurd h (by omega))) (Nat.zero_le pc)
theorem dd_42_0 : (List.range 700).all (fun q => dm_chk 42 (0 + q)) = true := by decide +kernel
theorem dd_42 (pc : Nat) (h : pc < 700) : dm_chk 42 pc = true := (fun h1 : 0 ≤ pc => (Nat.lt_or_ge pc 700).elim (fun h2 => dm_seg 0 700 dd_42_0 h1 h2) (fun h1 => absurd h (by omega))) (Nat.zero_le pc)
theorem dd_43_100 : (List.range 600).all (fun q => dm_chk 43 (100 + q)) = true := by decide +kernel
theorem dd_43_0 : (List.range 100).all (fun q => dm_chk 43 (0 + q)) = true := by decide +kernel
theorem dd_43 (pc : Nat) (h : pc < 700) : dm_chk 43 pc = true := (fun h1 : 0 ≤ pc => (Nat.lt_or_ge pc 100).elim (fun h2 => dm_seg 0 100 dd_43_0 h1 h2) (fun h1 => (Nat.lt_or_ge pc 700).elim (fun h2 => dm_seg 100 600 dd_43_100 h1 h2) (fun h1 => absurd h (by omega)))) (Nat.zero_le pc)
theorem dd_44_100 : (List.range 600).all (fun q => dm_chk 44 (100 + q)) = true := by decide +kernel
theorem dd_44_0 : (List.range 100).all (fun q => dm_chk 44 (0 + q)) = true := by decide +kernel
theorem dd_44 (pc : Nat) (h : pc < 700) : dm_chk 44 pc = true := (fun h1 : 0 ≤ pc => (Nat.lt_or_ge pc 100).elim (fun h2 => dm_seg 0 100 dd_44_0 h1 h2) (fun h1 => (Nat.lt_or_ge pc 700).elim (fun h2 => dm_seg 100 600 dd_44_100 h1 h2) (fun h1 => absurd h (by omega)))) (Nat.zero_le pc)
theorem dd_45_0 : (List.range 700).all (fun q => dm_chk 45 (0 + q)) = true := by decide +kernel
theorem dd_45 (pc : Nat) (h : pc < 700) : dm_chk 45 pc = true := (fun h1 : 0 ≤ pc => (Nat.lt_or_ge pc 700).elim (fun h2 => dm_seg 0 700 dd_45_0 h1 h2) (fun h1 => absurd h (by omega))) (Nat.zero_le pc)
theorem dd_46_0 : (List.range 700).all (fun q => dm_chk 46 (0 + q)) = true := by decide +kernel
theorem dd_46 (pc : Nat) (h : pc < 700) : dm_chk 46 pc = true := (fun h1 : 0 ≤ pc => (Nat.lt_or_ge pc 700).elim (fun h2 => dm_seg 0 700 dd_46_0 h1 h2) (fun h1 => absurd h (by omega))) (Nat.zero_le pc)
theorem dd_47_0 : (List.range 700).all (fun q => dm_chk 47 (0 + q)) = true := by decide +kernel
theorem dd_47 (pc : Nat) (h : pc < 700) : dm_chk 47 pc = true := (fun h1 : 0 ≤ pc => (Nat.lt_or_ge pc 700).elim (fun h2 => dm_seg 0 700 dd_47_0 h1 h2) (fun h1 => absurd h (by omega))) (Nat.zero_le pc)
theorem dd_48_0 : (List.range 700).all (fun q => dm_chk 48 (0 + q)) = true := by decide +kernel
theorem dd_48 (pc : Nat) (h : pc < 700) : dm_chk 48 pc = true := (fun h1 : 0 ≤ pc => (Nat.lt_or_ge pc 700).elim (fun h2 => dm_seg 0 700 dd_48_0 h1 h2) (fun h1 => absurd h (by omega))) (Nat.zero_le pc)
theorem dd_49_0 : (List.range 700).all (fun q => dm_chk 49 (0 + q)) = true := by decide +kernel
theorem dd_49 (pc : Nat) (h : pc < 700) : dm_chk 49 pc = true := (fun h1 : 0 ≤ pc => (Nat.lt_or_ge pc 700).elim (fun h2 => dm_seg 0 700 dd_49_0 h1 h2) (fun h1 => absurd h (by omega))) (Nat.zero_le pc)
theorem dd_50_0 : (List.range 700).all (fun q => dm_chk 50 (0 + q)) = true := by decide +kernel
theorem dd_50 (pc : Nat) (h : pc < 700) : dm_chk 50 pc = true := (fun h1 : 0 ≤ pc => (Nat.lt_or_ge pc 700).elim (fun h2 => dm_seg 0 700 dd_50_0 h1 h2) (fun h1 => absurd h (by omega))) (Nat.zero_le pc)
theorem dd_51_0 : (List.range 700).all (fun q => dm_chk 51 (0 + q)) = true := by decide +kernel
theorem dd_51 (pc : Nat) (h : pc < 700) : dm_chk 51 pc = true := (fun h1 : 0 ≤ pc => (Nat.lt_or_ge pc 700).elim (fun h2 => dm_seg 0 700 dd_51_0 h1 h2) (fun h1 => absurd h (by omega))) (Nat.zero_le pc)
theorem dd_52_0 : (List.range 700).all (fun q => dm_chk 52 (0 + q)) = true := by decide +kernel
theorem dd_52 (pc : Nat) (h : pc < 700) : dm_chk 52 pc = true := (fun h1 : 0 ≤ pc => (Nat.lt_or_ge pc 700).elim (fun h2 => dm_seg 0 700 dd_52_0 h1 h2) (fun h1 => absurd h (by omega))) (Nat.zero_le pc)
theorem dd_53_0 : (List.range 700).all (fun q => dm_chk 53 (0 + q)) = true := by decide +kernel
theorem dd_53 (pc : Nat) (h : pc < 700) : dm_chk 53 pc = true := (fun h1 : 0 ≤ pc => (Nat.lt_or_ge pc 700).elim (fun h2 => dm_seg 0 700 dd_53_0 h1 h2) (fun h1 => absurd h (by omega))) (Nat.zero_le pc)
theorem dd_54_0 : (List.range 700).all (fun q => dm_chk 54 (0 + q)) = true := by decide +kernel
theorem dd_54 (pc : Nat) (h : pc < 700) : dm_chk 54 pc = true := (fun h1 : 0 ≤ pc => (Nat.lt_or_ge pc 700).elim (fun h2 => dm_seg 0 700 dd_54_0 h1 h2) (fun h1 => absurd h (by omega))) (Nat.zero_le pc)
theorem dd_55_0 : (List.range 700).all (fun q => dm_chk 55 (0 + q)) = true := by decide +kernel
theorem dd_55 (pc : Nat) (h : pc < 700) : dm_chk 55 pc = true := (fun h1 : 0 ≤ pc => (Nat.lt_or_ge pc 700).elim (fun h2 => dm_seg 0 700 dd_55_0 h1 h2) (fun h1 => absurd h (by omega))) (Nat.zero_le pc)
theorem dd_56_0 : (List.range 700).all (fun q => dm_chk 56 (0 + q)) = true := by decide +kernel
theorem dd_56 (pc : Nat) (h : pc < 700) : dm_chk 56 pc = true := (fun h1 : 0 ≤ pc => (Nat.lt_or_ge pc 700).elim (fun h2 => dm_seg 0 700 dd_56_0 h1 h2) (fun h1 => absurd h (by omega))) (Nat.zero_le pc)
theorem dd_57_0 : (List.range 700).all (fun q => dm_chk 57 (0 + q)) = true := by decide +kernel
theorem dd_57 (pc : Nat) (h : pc < 700) : dm_chk 57 pc = true := (fun h1 : 0 ≤ pc => (Nat.lt_or_ge pc 700).elim (fun h2 => dm_seg 0 700 dd_57_0 h1 h2) (fun h1 => absurd h (by omega))) (Nat.zero_le pc)
theorem dd_58_0 : (List.range 700).all (fun q => dm_chk 58 (0 + q)) = true := by decide +kernel
theorem dd_58 (pc : Nat) (h : pc < 700) : dm_chk 58 pc = true := (fun h1 : 0 ≤ pc => (Nat.lt_or_ge pc 700).elim (fun h2 => dm_seg 0 700 dd_58_0 h1 h2) (fun h1 => absurd h (by omega))) (Nat.zero_le pc)
theorem dd_59_0 : (List.range 700).all (fun q => dm_chk 59 (0 + q)) = true := by decide +kernel
theorem dd_59 (pc : Nat) (h : pc < 700) : dm_chk 59 pc = true := (fun h1 : 0 ≤ pc => (Nat.lt_or_ge pc 700).elim (fun h2 => dm_seg 0 700 dd_59_0 h1 h2) (fun h1 => absurd h (by omega))) (Nat.zero_le pc)
theorem dd_60_0 : (List.range 700).all (fun q => dm_chk 60 (0 + q)) = true := by decide +kernel
theorem dd_60 (pc : Nat) (h : pc < 700) : dm_chk 60 pc = true := (fun h1 : 0 ≤ pc => (Nat.lt_or_ge pc 700).elim (fun h2 => dm_seg 0 700 dd_60_0 h1 h2) (fun h1 => absurd h (by omega))) (Nat.zero_le pc)
theorem dd_61_0 : (List.range 700).all (fun q => dm_chk 61 (0 + q)) = true := by decide +kernel
theorem dd_61 (pc : Nat) (h : pc < 700) : dm_chk 61 pc = true := (fun h1 : 0 ≤ pc => (Nat.lt_or_ge pc 700).elim (fun h2 => dm_seg 0 700 dd_61_0 h1 h2) (fun h1 => absurd h (by omega))) (Nat.zero_le pc)
theorem dd_62_0 : (List.range 700).all (fun q => dm_chk 62 (0 + q)) = true := by decide +kernel
theorem dd_62 (pc : Nat) (h : pc < 700) : dm_chk 62 pc = true := (fun h1 : 0 ≤ pc => (Nat.lt_or_ge pc 700).elim (fun h2 => dm_seg 0 700 dd_62_0 h1 h2) (fun h1 => absurd h (by omega))) (Nat.zero_le pc)
theorem dd_63_0 : (List.range 700).all (fun q => dm_chk 63 (0 + q)) = true := by decide +kernel
theorem dd_63 (pc : Nat) (h : pc < 700) : dm_chk 63 pc = true := (fun h1 : 0 ≤ pc => (Nat.lt_or_ge pc 700).elim (fun h2 => dm_seg 0 700 dd_63_0 h1 h2) (fun h1 => absurd h (by omega))) (Nat.zero_le pc)
theorem dd_64_100 : (List.range 600).all (fun q => dm_chk 64 (100 + q)) = true := by decide +kernel
theorem dd_64_0 : (List.range 100).all (fun q => dm_chk 64 (0 + q)) = true := by decide +kernel
theorem dd_64 (pc : Nat) (h : pc < 700) : dm_chk 64 pc = true := (fun h1 : 0 ≤ pc => (Nat.lt_or_ge pc 100).elim (fun h2 => dm_seg 0 100 dd_64_0 h1 h2) (fun h1 => (Nat.lt_or_ge pc 700).elim (fun h2 => dm_seg 100 600 dd_64_100 h1 h2) (fun h1 => absurd h (by omega)))) (Nat.zero_le pc)
theorem dd_65_100 : (List.range 600).all (fun q => dm_chk 65 (100 + q)) = true := by decide +kernel
theorem dd_65_0 : (List.range 100).all (fun q => dm_chk 65 (0 + q)) = true := by decide +kernel
theorem dd_65 (pc : Nat) (h : pc < 700) : dm_chk 65 pc = true := (fun h1 : 0 ≤ pc => (Nat.lt_or_ge pc 100).elim (fun h2 => dm_seg 0 100 dd_65_0 h1 h2) (fun h1 => (Nat.lt_or_ge pc 700).elim (fun h2 => dm_seg 100 600 dd_65_100 h1 h2) (fun h1 => absurd h (by omega)))) (Nat.zero_le pc)
theorem dd_66_0 : (List.range 700).all (fun q => dm_chk 66 (0 + q)) = true := by decide +kernel
theorem dd_66 (pc : Nat) (h : pc < 700) : dm_chk 66 pc = true := (fun h1 : 0 ≤ pc => (Nat.lt_or_ge pc 700).elim (fun h2 => dm_seg 0 700 dd_66_0 h1 h2) (fun h1 => absurd h (by omega))) (Nat.zero_le pc)
theorem dd_67_0 : (List.range 700).all (fun q => dm_chk 67 (0 + q)) = true := by decide +kernel
theorem dd_67 (pc : Nat) (h : pc < 700) : dm_chk 67 pc = true := (fun h1 : 0 ≤ pc => (Nat.lt_or_ge pc 700).elim (fun h2 => dm_seg 0 700 dd_67_0 h1 h2) (fun h1 => absurd h (by omega))) (Nat.zero_le pc)
theorem dd_68_0 : (List.range 700).all (fun q => dm_chk 68 (0 + q)) = true := by decide +kernel
theorem dd_68 (pc : Nat) (h : pc < 700) : dm_chk 68 pc = true := (fun h1 : 0 ≤ pc => (Nat.lt_or_ge pc 700).elim (fun h2 => dm_seg 0 700 dd_68_0 h1 h2) (fun h1 => absurd h (by omega))) (Nat.zero_le pc)
theorem dd_69_0 : (List.range 700).all (fun q => dm_chk 69 (0 + q)) = true := by decide +kernel
theorem dd_69 (pc : Nat) (h : pc < 700) : dm_chk 69 pc = true := (fun h1 : 0 ≤ pc => (Nat.lt_or_ge pc 700).elim (fun h2 => dm_seg 0 700 dd_69_0 h1 h2) (fun h1 => absurd h (by omega))) (Nat.zero_le pc)
theorem dd_70_0 : (List.range 700).all (fun q => dm_chk 70 (0 + q)) = true := by decide +kernel
theorem dd_70 (pc : Nat) (h : pc < 700) : dm_chk 70 pc = true := (fun h1 : 0 ≤ pc => (Nat.lt_or_ge pc 700).elim (fun h2 => dm_seg 0 700 dd_70_0 h1 h2) (fun h1 => absurd h (by omega))) (Nat.zero_le pc)
theorem dd_71_0 : (List.range 700).all (fun q => dm_chk 71 (0 + q)) = true := by decide +kernel
theorem dd_71 (pc : Nat) (h : pc < 700) : dm_chk 71 pc = true := (fun h1 : 0 ≤ pc => (Nat.lt_or_ge pc 700).elim (fun h2 => dm_seg 0 700 dd_71_0 h1 h2) (fun h1 => absurd h (by omega))) (Nat.zero_le pc)
theorem dd_72_100 : (List.range 600).all (fun q => dm_chk 72 (100 + q)) = true := by decide +kernel
theorem dd_72_0 : (List.range 100).all (fun q => dm_chk 72 (0 + q)) = true := by decide +kernel
theorem dd_72 (pc : Nat) (h : pc < 700) : dm_chk 72 pc = true := (fun h1 : 0 ≤ pc => (Nat.lt_or_ge pc 100).elim (fun h2 => dm_seg 0 100 dd_72_0 h1 h2) (fun h1 => (Nat.lt_or_ge pc 700).elim (fun h2 => dm_seg 100 600 dd_72_100 h1 h2) (fun h1 => absurd h (by omega)))) (Nat.zero_le pc)
theorem dd_73_0 : (List.range 700).all (fun q => dm_chk 73 (0 + q)) = true := by decide +kernel
theorem dd_73 (pc : Nat) (h : pc < 700) : dm_chk 73 pc = true := (fun h1 : 0 ≤ pc => (Nat.lt_or_ge pc 700).elim (fun h2 => dm_seg 0 700 dd_73_0 h1 h2) (fun h1 => absurd h (by omega))) (Nat.zero_le pc)
theorem dd_74_0 : (List.range 700).all (fun q => dm_chk 74 (0 + q)) = true := by decide +kernel
theorem dd_74 (pc : Nat) (h : pc < 700) : dm_chk 74 pc = true := (fun h1 : 0 ≤ pc => (Nat.lt_or_ge pc 700).elim (fun h2 => dm_seg 0 700 dd_74_0 h1 h2) (fun h1 => absurd h (by omega))) (Nat.zero_le pc)
theorem dd_75_0 : (List.range 700).all (fun q => dm_chk 75 (0 + q)) = true := by decide +kernel
theorem dd_75 (pc : Nat) (h : pc < 700) : dm_chk 75 pc = true := (fun h1 : 0 ≤ pc => (Nat.lt_or_ge pc 700).elim (fun h2 => dm_seg 0 700 dd_75_0 h1 h2) (fun h1 => absurd h (by omega))) (Nat.zero_le pc)
theorem dd_76_0 : (List.range 700).all (fun q => dm_chk 76 (0 + q)) = true := by decide +kernel
theorem dd_76 (pc : Nat) (h : pc < 700) : dm_chk 76 pc = true := (fun h1 : 0 ≤ pc => (Nat.lt_or_ge pc 700).elim (fun h2 => dm_seg 0 700 dd_76_0 h1 h2) (fun h1 => absurd h (by omega))) (Nat.zero_le pc)
theorem dd_77_0 : (List.range 700).all (fun q => dm_chk 77 (0 + q)) = true := by decide +kernel
theorem dd_77 (pc : Nat) (h : pc < 700) : dm_chk 77 pc = true := (fun h1 : 0 ≤ pc => (Nat.lt_or_ge pc 700).elim (fun h2 => dm_seg 0 700 dd_77_0 h1 h2) (fun h1 => absurd h (by omega))) (Nat.zero_le pc)
theorem dd_78_0 : (List.range 700).all (fun q => dm_chk 78 (0 + q)) = true := by decide +kernel
theorem dd_78 (pc : Nat) (h : pc < 700) : dm_chk 78 pc = true := (fun h1 : 0 ≤ pc => (Nat.lt_or_ge pc 700).elim (fun h2 => dm_seg 0 700 dd_78_0 h1 h2) (fun h1 => absurd h (by omega))) (Nat.zero_le pc)
theorem dd_79_0 : (List.range 700).all (fun q => dm_chk 79 (0 + q)) = true := by decide +kernel
theorem dd_79 (pc : Nat) (h : pc < 700) : dm_chk 79 pc = true := (fun h1 : 0 ≤ pc => (Nat.lt_or_ge pc 700).elim (fun h2 => dm_seg 0 700 dd_79_0 h1 h2) (fun h1 => absurd h (by omega))) (Nat.zero_le pc)
theorem dd_80_0 : (List.range 700).all (fun q => dm_chk 80 (0 + q)) = true := by decide +kernel
theorem dd_80 (pc : Nat) (h : pc < 700) : dm_chk 80 pc = true := (fun h1 : 0 ≤ pc => (Nat.lt_or_ge pc 700).elim (fun h2 => dm_seg 0 700 dd_80_0 h1 h2) (fun h1 => absurd h (by omega))) (Nat.zero_le pc)
theorem dd_81_0 : (List.range 700).all (fun q => dm_chk 81 (0 + q)) = true := by decide +kernel
theorem dd_81 (pc : Nat) (h : pc < 700) : dm_chk 81 pc = true := (fun h1 : 0 ≤ pc => (Nat.lt_or_ge pc 700).elim (fun h2 => dm_seg 0 700 dd_81_0 h1 h2) (fun h1 => absurd h (by omega))) (Nat.zero_le pc)
theorem dd_82_0 : (List.range 700).all (fun q => dm_chk 82 (0 + q)) = true := by decide +kernel
theorem dd_82 (pc : Nat) (h : pc < 700) : dm_chk 82 pc = true := (fun h1 : 0 ≤ pc => (Nat.lt_or_ge pc 700).elim (fun h2 => dm_seg 0 700 dd_82_0 h1 h2) (fun h1 => absurd h (by omega))) (Nat.zero_le pc)
theorem dd_83_100 : (List.range 600).all (fun q => dm_chk 83 (100 + q)) = true := by decide +kernel
theorem dd_83_0 : (List.range 100).all (fun q => dm_chk 83 (0 + q)) = true := by decide +kernel
theorem dd_83 (pc : Nat) (h : pc < 700) : dm_chk 83 pc = true := (fun h1 : 0 ≤ pc => (Nat.lt_or_ge pc 100).elim (fun h2 => dm_seg 0 100 dd_83_0 h1 h2) (fun h1 => (Nat.lt_or_ge pc 700).elim (fun h2 => dm_seg 100 600 dd_83_100 h1 h2) (fun h1 => absurd h (by omega)))) (Nat.zero_le pc)
theorem dd_84_100 : (List.range 600).all (fun q => dm_chk 84 (100 + q)) = true := by decide +kernel
theorem dd_84_0 : (List.range 100).all (fun q => dm_chk 84 (0 + q)) = true := by decide +kernel
theorem dd_84 (pc : Nat) (h : pc < 700) : dm_chk 84 pc = true := (fun h1 : 0 ≤ pc => (Nat.lt_or_ge pc 100).elim (fun h2 => dm_seg 0 100 dd_84_0 h1 h2) (fun h1 => (Nat.lt_or_ge pc 700).elim (fun h2 => dm_seg 100 600 dd_84_100 h1 h2) (fun h1 => absurd h (by omega)))) (Nat.zero_le pc)
theorem dd_85_0 : (List.range 700).all (fun q => dm_chk 85 (0 + q)) = true := by decide +kernel
theorem dd_85 (pc : Nat) (h : pc < 700) : dm_chk 85 pc = true := (fun h1 : 0 ≤ pc => (Nat.lt_or_ge pc 700).elim (fun h2 => dm_seg 0 700 dd_85_0 h1 h2) (fun h1 => absurd h (by omega))) (Nat.zero_le pc)
theorem dd_86_0 : (List.range 700).all (fun q => dm_chk 86 (0 + q)) = true := by decide +kernel
theorem dd_86 (pc : Nat) (h : pc < 700) : dm_chk 86 pc = true := (fun h1 : 0 ≤ pc => (Nat.lt_or_ge pc 700).elim (fun h2 => dm_seg 0 700 dd_86_0 h1 h2) (fun h1 => absurd h (by omega))) (Nat.zero_le pc)
theorem dd_87_0 : (List.range 700).all (fun q => dm_chk 87 (0 + q)) = true := by decide +kernel
theorem dd_87 (pc : Nat) (h : pc < 700) : dm_chk 87 pc = true := (fun h1 : 0 ≤ pc => (Nat.lt_or_ge pc 700).elim (fun h2 => dm_seg 0 700 dd_87_0 h1 h2) (fun h1 => absurd h (by omega))) (Nat.zero_le pc)
theorem dd_88_0 : (List.range 700).all (fun q => dm_chk 88 (0 + q)) = true := by decide +kernel
theorem dd_88 (pc : Nat) (h : pc < 700) : dm_chk 88 pc = true := (fun h1 : 0 ≤ pc => (Nat.lt_or_ge pc 700).elim (fun h2 => dm_seg 0 700 dd_88_0 h1 h2) (fun h1 => absurd h (by omega))) (Nat.zero_le pc)
theorem dd_89_200 : (List.range 500).all (fun q => dm_chk 89 (200 + q)) = true := by decide +kernel
theorem dd_89_100 : (List.range 100).all (fun q => dm_chk 89 (100 + q)) = true := by decide +kernel
theorem dd_89_0 : (List.range 100).all (fun q => dm_chk 89 (0 + q)) = true := by decide +kernel
theorem dd_89 (pc : Nat) (h : pc < 700) : dm_chk 89 pc = true := (fun h1 : 0 ≤ pc => (Nat.lt_or_ge pc 100).elim (fun h2 => dm_seg 0 100 dd_89_0 h1 h2) (fun h1 => (Nat.lt_or_ge pc 200).elim (fun h2 => dm_seg 100 100 dd_89_100 h1 h2) (fun h1 => (Nat.lt_or_ge pc 700).elim (fun h2 => dm_seg 200 500 dd_89_200 h1 h2) (fun h1 => absurd h (by omega))))) (Nat.zero_le pc)
theorem dd_90_0 : (List.range 700).all (fun q => dm_chk 90 (0 + q)) = true := by decide +kernel
theorem dd_90 (pc : Nat) (h : pc < 700) : dm_chk 90 pc = true := (fun h1 : 0 ≤ pc => (Nat.lt_or_ge pc 700).elim (fun h2 => dm_seg 0 700 dd_90_0 h1 h2) (fun h1 => absurd h (by omega))) (Nat.zero_le pc)
theorem dd_91_0 : (List.range 700).all (fun q => dm_chk 91 (0 + q)) = true := by decide +kernel
theorem dd_91 (pc : Nat) (h : pc < 700) : dm_chk 91 pc = true := (fun h1 : 0 ≤ pc => (Nat.lt_or_ge pc 700).elim (fun h2 => dm_seg 0 700 dd_91_0 h1 h2) (fun h1 => absurd h (by omega))) (Nat.zero_le pc)
theorem dd_92_0 : (List.range 700).all (fun q => dm_chk 92 (0 + q)) = true := by decide +kernel
theorem dd_92 (pc : Nat) (h : pc < 700) : dm_chk 92 pc = true := (fun h1 : 0 ≤ pc => (Nat.lt_or_ge pc 700).elim (fun h2 => dm_seg 0 700 dd_92_0 h1 h2) (fun h1 => absurd h (by omega))) (Nat.zero_le pc)
theorem dd_93_0 : (List.range 700).all (fun q => dm_chk 93 (0 + q)) = true := by decide +kernel
theorem dd_93 (pc : Nat) (h : pc < 700) : dm_chk 93 pc = true := (fun h1 : 0 ≤ pc => (Nat.lt_or_ge pc 700).elim (fun h2 => dm_seg 0 700 dd_93_0 h1 h2) (fun h1 => absurd h (by omega))) (Nat.zero_le pc)
theorem dd_94_0 : (List.range 700).all (fun q => dm_chk 94 (0 + q)) = true := by decide +kernel
theorem dd_94 (pc : Nat) (h : pc < 700) : dm_chk 94 pc = true := (fun h1 : 0 ≤ pc => (Nat.lt_or_ge pc 700).elim (fun h2 => dm_seg 0 700 dd_94_0 h1 h2) (fun h1 => absurd h (by omega))) (Nat.zero_le pc)
theorem dd_95_0 : (List.range 700).all (fun q => dm_chk 95 (0 + q)) = true := by decide +kernel
theorem dd_95 (pc : Nat) (h : pc < 700) : dm_chk 95 pc = true := (fun h1 : 0 ≤ pc => (Nat.lt_or_ge pc 700).elim (fun h2 => dm_seg 0 700 dd_95_0 h1 h2) (fun h1 => absurd h (by omega))) (Nat.zero_le pc)
theorem dd_96_0 : (List.range 700).all (fun q => dm_chk 96 (0 + q)) = true := by decide +kernel
theorem dd_96 (pc : Nat) (h : pc < 700) : dm_chk 96 pc = true := (fun h1 : 0 ≤ pc => (Nat.lt_or_ge pc 700).elim (fun h2 => dm_seg 0 700 dd_96_0 h1 h2) (fun h1 => absurd h (by omega))) (Nat.zero_le pc)
theorem dd_97_100 : (List.range 600).all (fun q => dm_chk 97 (100 + q)) = true := by decide +kernel
theorem dd_97_0 : (List.range 100).all (fun q => dm_chk 97 (0 + q)) = true := by decide +kernel
theorem dd_97 (pc : Nat) (h : pc < 700) : dm_chk 97 pc = true := (fun h1 : 0 ≤ pc => (Nat.lt_or_ge pc 100).elim (fun h2 => dm_seg 0 100 dd_97_0 h1 h2) (fun h1 => (Nat.lt_or_ge pc 700).elim (fun h2 => dm_seg 100 600 dd_97_100 h1 h2) (fun h1 => absurd h (by omega)))) (Nat.zero_le pc)
theorem dd_98_100 : (List.range 600).all (fun q => dm_chk 98 (100 + q)) = true := by decide +kernel
theorem dd_98_0 : (List.range 100).all (fun q => dm_chk 98 (0 + q)) = true := by decide +kernel
theorem dd_98 (pc : Nat) (h : pc < 700) : dm_chk 98 pc = true := (fun h1 : 0 ≤ pc => (Nat.lt_or_ge pc 100).elim (fun h2 => dm_seg 0 100 dd_98_0 h1 h2) (fun h1 => (Nat.lt_or_ge pc 700).elim (fun h2 => dm_seg 100 600 dd_98_100 h1 h2) (fun h1 => absurd h (by omega)))) (Nat.zero_le pc)
theorem dd_99_0 : (List.range 700).all (fun q => dm_chk 99 (0 + q)) = true := by decide +kernel
theorem dd_99 (pc : Nat) (h : pc < 700) : dm_chk 99 pc = true := (fun h1 : 0 ≤ pc => (Nat.lt_or_ge pc 700).elim (fun h2 => dm_seg 0 700 dd_99_0 h1 h2) (fun h1 => absurd h (by omega))) (Nat.zero_le pc)
theorem dd_100_0 : (List.range 700).all (fun q => dm_chk 100 (0 + q)) = true := by decide +kernel
theorem dd_100 (pc : Nat) (h : pc < 700) : dm_chk 100 pc = true := (fun h1 : 0 ≤ pc => (Nat.lt_or_ge pc 700).elim (fun h2 => dm_seg 0 700 dd_100_0 h1 h2) (fun h1 => absurd h (by omega))) (Nat.zero_le pc)
theorem dd_101_0 : (List.range 700).all (fun q => dm_chk 101 (0 + q)) = true := by decide +kernel
theorem dd_101 (pc : Nat) (h : pc < 700) : dm_chk 101 pc = true := (fun h1 : 0 ≤ pc => (Nat.lt_or_ge pc 700).elim (fun h2 => dm_seg 0 700 dd_101_0 h1 h2) (fun h1 => absurd h (by omega))) (Nat.zero_le pc)
theorem dd_102_0 : (List.range 700).all (fun q => dm_chk 102 (0 + q)) = true := by decide +kernel
theorem dd_102 (pc : Nat) (h : pc < 700) : dm_chk 102 pc = true := (fun h1 : 0 ≤ pc => (Nat.lt_or_ge pc 700).elim (fun h2 => dm_seg 0 700 dd_102_0 h1 h2) (fun h1 => absurd h (by omega))) (Nat.zero_le pc)
theorem dd_103_0 : (List.range 700).all (fun q => dm_chk 103 (0 + q)) = true := by decide +kernel
theorem dd_103 (pc : Nat) (h : pc < 700) : dm_chk 103 pc = true := (fun h1 : 0 ≤ pc => (Nat.lt_or_ge pc 700).elim (fun h2 => dm_seg 0 700 dd_103_0 h1 h2) (fun h1 => absurd h (by omega))) (Nat.zero_le pc)
theorem dd_104_0 : (List.range 700).all (fun q => dm_chk 104 (0 + q)) = true := by decide +kernel
theorem dd_104 (pc : Nat) (h : pc < 700) : dm_chk 104 pc = true := (fun h1 : 0 ≤ pc => (Nat.lt_or_ge pc 700).elim (fun h2 => dm_seg 0 700 dd_104_0 h1 h2) (fun h1 => absurd h (by omega))) (Nat.zero_le pc)
theorem dd_105_0 : (List.range 700).all (fun q => dm_chk 105 (0 + q)) = true := by decide +kernel
theorem dd_105 (pc : Nat) (h : pc < 700) : dm_chk 105 pc = true := (fun h1 : 0 ≤ pc => (Nat.lt_or_ge pc 700).elim (fun h2 => dm_seg 0 700 dd_105_0 h1 h2) (fun h1 => absurd h (by omega))) (Nat.zero_le pc)
theorem dd_106_100 : (List.range 600).all (fun q => dm_chk 106 (100 + q)) = true := by decide +kernel
theorem dd_106_0 : (List.range 100).all (fun q => dm_chk 106 (0 + q)) = true := by decide +kernel
theorem dd_106 (pc : Nat) (h : pc < 700) : dm_chk 106 pc = true := (fun h1 : 0 ≤ pc => (Nat.lt_or_ge pc 100).elim (fun h2 => dm_seg 0 100 dd_106_0 h1 h2) (fun h1 => (Nat.lt_or_ge pc 700).elim (fun h2 => dm_seg 100 600 dd_106_100 h1 h2) (fun h1 => absurd h (by omega)))) (Nat.zero_le pc)
theorem dd_107_0 : (List.range 700).all (fun q => dm_chk 107 (0 + q)) = true := by decide +kernel
theorem dd_107 (pc : Nat) (h : pc < 700) : dm_chk 107 pc = true := (fun h1 : 0 ≤ pc => (Nat.lt_or_ge pc 700).elim (fun h2 => dm_seg 0 700 dd_107_0 h1 h2) (fun h1 => absurd h (by omega))) (Nat.zero_le pc)
theorem dd_108_0 : (List.range 700).all (fun q => dm_chk 108 (0 + q)) = true := by decide +kernel
theorem dd_108 (pc : Nat) (h : pc < 700) : dm_chk 108 pc = true := (fun h1 : 0 ≤ pc => (Nat.lt_or_ge pc 700).elim (fun h2 => dm_seg 0 700 dd_108_0 h1 h2) (fun h1 => absurd h (by omega))) (Nat.zero_le pc)
theorem dd_109_100 : (List.range 600).all (fun q => dm_chk 109 (100 + q)) = true := by decide +kernel
theorem dd_109_0 : (List.range 100).all (fun q => dm_chk 109 (0 + q)) = true := by decide +kernel
theorem dd_109 (pc : Nat) (h : pc < 700) : dm_chk 109 pc = true := (fun h1 : 0 ≤ pc => (Nat.lt_or_ge pc 100).elim (fun h2 => dm_seg 0 100 dd_109_0 h1 h2) (fun h1 => (Nat.lt_or_ge pc 700).elim (fun h2 => dm_seg 100 600 dd_109_100 h1 h2) (fun h1 => absurd h (by omega)))) (Nat.zero_le pc)
theorem dd_110_0 : (List.range 700).all (fun q => dm_chk 110 (0 + q)) = true := by decide +kernel
theorem dd_110 (pc : Nat) (h : pc < 700) : dm_chk 110 pc = true := (fun h1 : 0 ≤ pc => (Nat.lt_or_ge pc 700).elim (fun h2 => dm_seg 0 700 dd_110_0 h1 h2) (fun h1 => absurd h (by omega))) (Nat.zero_le pc)
theorem dd_111_0 : (List.range 700).all (fun q => dm_chk 111 (0 + q)) = true := by decide +kernel
theorem dd_111 (pc : Nat) (h : pc < 700) : dm_chk 111 pc = true := (fun h1 : 0 ≤ pc => (Nat.lt_or_ge pc 700).elim (fun h2 => dm_seg 0 700 dd_111_0 h1 h2) (fun h1 => absurd h (by omega))) (Nat.zero_le pc)
theorem dd_112_0 : (List.range 700).all (fun q => dm_chk 112 (0 + q)) = true := by decide +kernel
theorem dd_112 (pc : Nat) (h : pc < 700) : dm_chk 112 pc = true := (fun h1 : 0 ≤ pc => (Nat.lt_or_ge pc 700).elim (fun h2 => dm_seg 0 700 dd_112_0 h1 h2) (fun h1 => absurd h (by omega))) (Nat.zero_le pc)
theorem dd_113_100 : (List.range 600).all (fun q => dm_chk 113 (100 + q)) = true := by decide +kernel
theorem dd_113_0 : (List.range 100).all (fun q => dm_chk 113 (0 + q)) = true := by decide +kernel
theorem dd_113 (pc : Nat) (h : pc < 700) : dm_chk 113 pc = true := (fun h1 : 0 ≤ pc => (Nat.lt_or_ge pc 100).elim (fun h2 => dm_seg 0 100 dd_113_0 h1 h2) (fun h1 => (Nat.lt_or_ge pc 700).elim (fun h2 => dm_seg 100 600 dd_113_100 h1 h2) (fun h1 => absurd h (by omega)))) (Nat.zero_le pc)
theorem dd_114_300 : (List.range 400).all (fun q => dm_chk 114 (300 + q)) = true := by decide +kernel
theorem dd_114_200 : (List.range 100).all (fun q => dm_chk 114 (200 + q)) = true := by decide +kernel
theorem dd_114_100 : (List.range 100).all (fun q => dm_chk 114 (100 + q)) = true := by decide +kernel
theorem dd_114_0 : (List.range 100).all (fun q => dm_chk 114 (0 + q)) = true := by decide +kernel
theorem dd_114 (pc : Nat) (h : pc < 700) : dm_chk 114 pc = true := (fun h1 : 0 ≤ pc => (Nat.lt_or_ge pc 100).elim (fun h2 => dm_seg 0 100 dd_114_0 h1 h2) (fun h1 => (Nat.lt_or_ge pc 200).elim (fun h2 => dm_seg 100 100 dd_114_100 h1 h2) (fun h1 => (Nat.lt_or_ge pc 300).elim (fun h2 => dm_seg 200 100 dd_114_200 h1 h2) (fun h1 => (Nat.lt_or_ge pc 700).elim (fun h2 => dm_seg 300 400 dd_114_300 h1 h2) (fun h1 => absurd h (by omega)))))) (Nat.zero_le pc)
theorem dd_115_0 : (List.range 700).all (fun q => dm_chk 115 (0 + q)) = true := by decide +kernel
theorem dd_115 (pc : Nat) (h : pc < 700) : dm_chk 115 pc = true := (fun h1 : 0 ≤ pc => (Nat.lt_or_ge pc 700).elim (fun h2 => dm_seg 0 700 dd_115_0 h1 h2) (fun h1 => absurd h (by omega))) (Nat.zero_le pc)
theorem dd_116_0 : (List.range 700).all (fun q => dm_chk 116 (0 + q)) = true := by decide +kernel
theorem dd_116 (pc : Nat) (h : pc < 700) : dm_chk 116 pc = true := (fun h1 : 0 ≤ pc => (Nat.lt_or_ge pc 700).elim (fun h2 => dm_seg 0 700 dd_116_0 h1 h2) (fun h1 => absurd h (by omega))) (Nat.zero_le pc)
theorem dd_117_0 : (List.range 700).all (fun q => dm_chk 117 (0 + q)) = true := by decide +kernel
theorem dd_117 (pc : Nat) (h : pc < 700) : dm_chk 117 pc = true := (fun h1 : 0 ≤ pc => (Nat.lt_or_ge pc 700).elim (fun h2 => dm_seg 0 700 dd_117_0 h1 h2) (fun h1 => absurd h (by omega))) (Nat.zero_le pc)
theorem dd_118_0 : (List.range 700).all (fun q => dm_chk 118 (0 + q)) = true := by decide +kernel
theorem dd_118 (pc : Nat) (h : pc < 700) : dm_chk 118 pc = true := (fun h1 : 0 ≤ pc => (Nat.lt_or_ge pc 700).elim (fun h2 => dm_seg 0 700 dd_118_0 h1 h2) (fun h1 => absurd h (by omega))) (Nat.zero_le pc)
theorem dd_119_200 : (List.range 500).all (fun q => dm_chk 119 (200 + q)) = true := by decide +kernel
theorem dd_119_100 : (List.range 100).all (fun q => dm_chk 119 (100 + q)) = true := by decide +kernel
theorem dd_119_0 : (List.range 100).all (fun q => dm_chk 119 (0 + q)) = true := by decide +kernel
theorem dd_119 (pc : Nat) (h : pc < 700) : dm_chk 119 pc = true := (fun h1 : 0 ≤ pc => (Nat.lt_or_ge pc 100).elim (fun h2 => dm_seg 0 100 dd_119_0 h1 h2) (fun h1 => (Nat.lt_or_ge pc 200).elim (fun h2 => dm_seg 100 100 dd_119_100 h1 h2) (fun h1 => (Nat.lt_or_ge pc 700).elim (fun h2 => dm_seg 200 500 dd_119_200 h1 h2) (fun h1 => absurd h (by omega))))) (Nat.zero_le pc)
theorem dd_120_0 : (List.range 700).all (fun q => dm_chk 120 (0 + q)) = true := by decide +kernel
theorem dd_120 (pc : Nat) (h : pc < 700) : dm_chk 120 pc = true := (fun h1 : 0 ≤ pc => (Nat.lt_or_ge pc 700).elim (fun h2 => dm_seg 0 700 dd_120_0 h1 h2) (fun h1 => absurd h (by omega))) (Nat.zero_le pc)
theorem dd_121_0 : (List.range 700).all (fun q => dm_chk 121 (0 + q)) = true := by decide +kernel
theorem dd_121 (pc : Nat) (h : pc < 700) : dm_chk 121 pc = true := (fun h1 : 0 ≤ pc => (Nat.lt_or_ge pc 700).elim (fun h2 => dm_seg 0 700 dd_121_0 h1 h2) (fun h1 => absurd h (by omega))) (Nat.zero_le pc)
theorem dd_122_100 : (List.range 600).all (fun q => dm_chk 122 (100 + q)) = true := by decide +kernel
theorem dd_122_0 : (List.range 100).all (fun q => dm_chk 122 (0 + q)) = true := by decide +kernel
theorem dd_122 (pc : Nat) (h : pc < 700) : dm_chk 122 pc = true := (fun h1 : 0 ≤ pc => (Nat.lt_or_ge pc 100).elim (fun h2 => dm_seg 0 100 dd_122_0 h1 h2) (fun h1 => (Nat.lt_or_ge pc 700).elim (fun h2 => dm_seg 100 600 dd_122_100 h1 h2) (fun h1 => absurd h (by omega)))) (Nat.zero_le pc)
theorem dd_123_600 : (List.range 100).all (fun q => dm_chk 123 (600 + q)) = true := by decide +kernel
theorem dd_123_500 : (List.range 100).all (fun q => dm_chk 123 (500 + q)) = true := by decide +kernel
theorem dd_123_400 : (List.range 100).all (fun q => dm_chk 123 (400 + q)) = true := by decide +kernel
theorem dd_123_300 : (List.range 100).all (fun q => dm_chk 123 (300 + q)) = true := by decide +kernel
theorem dd_123_200 : (List.range 100).all (fun q => dm_chk 123 (200 + q)) = true := by decide +kernel
theorem dd_123_100 : (List.range 100).all (fun q => dm_chk 123 (100 + q)) = true := by decide +kernel
theorem dd_123_0 : (List.range 100).all (fun q => dm_chk 123 (0 + q)) = true := by decide +kernel
theorem dd_123 (pc : Nat) (h : pc < 700) : dm_chk 123 pc = true := (fun h1 : 0 ≤ pc => (Nat.lt_or_ge pc 100).elim (fun h2 => dm_seg 0 100 dd_123_0 h1 h2) (fun h1 => (Nat.lt_or_ge pc 200).elim (fun h2 => dm_seg 100 100 dd_123_100 h1 h2) (fun h1 => (Nat.lt_or_ge pc 300).elim (fun h2 => dm_seg 200 100 dd_123_200 h1 h2) (fun h1 => (Nat.lt_or_ge pc 400).elim (fun h2 => dm_seg 300 100 dd_123_300 h1 h2) (fun h1 => (Nat.lt_or_ge pc 500).elim (fun h2 => dm_seg 400 100 dd_123_400 h1 h2) (fun h1 => (Nat.lt_or_ge pc 600).elim (fun h2 => dm_seg 500 100 dd_123_500 h1 h2) (fun h1 => (Nat.lt_or_ge pc 700).elim (fun h2 => dm_seg 600 100 dd_123_600 h1 h2) (fun h1 => absurd h (by omega))))))))) (Nat.zero_le pc)
theorem dd_124_0 : (List.range 700).all (fun q => dm_chk 124 (0 + q)) = true := by decide +kernel
theorem dd_124 (pc : Nat) (h : pc < 700) : dm_chk 124 pc = true := (fun h1 : 0 ≤ pc => (Nat.lt_or_ge pc 700).elim (fun h2 => dm_seg 0 700 dd_124_0 h1 h2) (fun h1 => absurd h (by omega))) (Nat.zero_le pc)
theorem dd_125_0 : (List.range 700).all (fun q => dm_chk 125 (0 + q)) = true := by decide +kernel
theorem dd_125 (pc : Nat) (h : pc < 700) : dm_chk 125 pc = true := (fun h1 : 0 ≤ pc => (Nat.lt_or_ge pc 700).elim (fun h2 => dm_seg 0 700 dd_125_0 h1 h2) (fun h1 => absurd h (by omega))) (Nat.zero_le pc)
theorem dd_126_0 : (List.range 700).all (fun q => dm_chk 126 (0 + q)) = true := by decide +kernel
theorem dd_126 (pc : Nat) (h : pc < 700) : dm_chk 126 pc = true := (fun h1 : 0 ≤ pc => (Nat.lt_or_ge pc 700).elim (fun h2 => dm_seg 0 700 dd_126_0 h1 h2) (fun h1 => absurd h (by omega))) (Nat.zero_le pc)
theorem dd_127_0 : (List.range 700).all (fun q => dm_chk 127 (0 + q)) = true := by decide +kernel
theorem dd_127 (pc : Nat) (h : pc < 700) : dm_chk 127 pc = true := (fun h1 : 0 ≤ pc => (Nat.lt_or_ge pc 700).elim (fun h2 => dm_seg 0 700 dd_127_0 h1 h2) (fun h1 => absurd h (by omega))) (Nat.zero_le pc)
theorem dd_128_100 : (List.range 600).all (fun q => dm_chk 128 (100 + q)) = true := by decide +kernel
theorem dd_128_0 : (List.range 100).all (fun q => dm_chk 128 (0 + q)) = true := by decide +kernel
theorem dd_128 (pc : Nat) (h : pc < 700) : dm_chk 128 pc = true := (fun h1 : 0 ≤ pc => (Nat.lt_or_ge pc 100).elim (fun h2 => dm_seg 0 100 dd_128_0 h1 h2) (fun h1 => (Nat.lt_or_ge pc 700).elim (fun h2 => dm_seg 100 600 dd_128_100 h1 h2) (fun h1 => absurd h (by omega)))) (Nat.zero_le pc)
theorem dd_129_100 : (List.range 600).all (fun q => dm_chk 129 (100 + q)) = true := by decide +kernel
theorem dd_129_0 : (List.range 100).all (fun q => dm_chk 129 (0 + q)) = true := by decide +kernel
theorem dd_129 (pc : Nat) (h : pc < 700) : dm_chk 129 pc = true := (fun h1 : 0 ≤ pc => (Nat.lt_or_ge pc 100).elim (fun h2 => dm_seg 0 100 dd_129_0 h1 h2) (fun h1 => (Nat.lt_or_ge pc 700).elim (fun h2 => dm_seg 100 600 dd_129_100 h1 h2) (fun h1 => absurd h (by omega)))) (Nat.zero_le pc)
theorem dd_130_0 : (List.range 700).all (fun q => dm_chk 130 (0 + q)) = true := by decide +kernel
theorem dd_130 (pc : Nat) (h : pc < 700) : dm_chk 130 pc = true := (fun h1 : 0 ≤ pc => (Nat.lt_or_ge pc 700).elim (fun h2 => dm_seg 0 700 dd_130_0 h1 h2) (fun h1 => absurd h (by omega))) (Nat.zero_le pc)
theorem dd_131_200 : (List.range 500).all (fun q => dm_chk 131 (200 + q)) = true := by decide +kernel
theorem dd_131_100 : (List.range 100).all (fun q => dm_chk 131 (100 + q)) = true := by decide +kernel
theorem dd_131_0 : (List.range 100).all (fun q => dm_chk 131 (0 + q)) = true := by decide +kernel
theorem dd_131 (pc : Nat) (h : pc < 700) : dm_chk 131 pc = true := (fun h1 : 0 ≤ pc => (Nat.lt_or_ge pc 100).elim (fun h2 => dm_seg 0 100 dd_131_0 h1 h2) (fun h1 => (Nat.lt_or_ge pc 200).elim (fun h2 => dm_seg 100 100 dd_131_100 h1 h2) (fun h1 => (Nat.lt_or_ge pc 700).elim (fun h2 => dm_seg 200 500 dd_131_200 h1 h2) (fun h1 => absurd h (by omega))))) (Nat.zero_le pc)
theorem dd_132_200 : (List.range 500).all (fun q => dm_chk 132 (200 + q)) = true := by decide +kernel
theorem dd_132_100 : (List.range 100).all (fun q => dm_chk 132 (100 + q)) = true := by decide +kernel
theorem dd_132_0 : (List.range 100).all (fun q => dm_chk 132 (0 + q)) = true := by decide +kernel
theorem dd_132 (pc : Nat) (h : pc < 700) : dm_chk 132 pc = true := (fun h1 : 0 ≤ pc => (Nat.lt_or_ge pc 100).elim (fun h2 => dm_seg 0 100 dd_132_0 h1 h2) (fun h1 => (Nat.lt_or_ge pc 200).elim (fun h2 => dm_seg 100 100 dd_132_100 h1 h2) (fun h1 => (Nat.lt_or_ge pc 700).elim (fun h2 => dm_seg 200 500 dd_132_200 h1 h2) (fun h1 => absurd h (by omega))))) (Nat.zero_le pc)
theorem dd_133_0 : (List.range 700).all (fun q => dm_chk 133 (0 + q)) = true := by decide +kernel
theorem dd_133 (pc : Nat) (h : pc < 700) : dm_chk 133 pc = true := (fun h1 : 0 ≤ pc => (Nat.lt_or_ge pc 700).elim (fun h2 => dm_seg 0 700 dd_133_0 h1 h2) (fun h1 => absurd h (by omega))) (Nat.zero_le pc)
theorem dd_134_100 : (List.range 600).all (fun q => dm_chk 134 (100 + q)) = true := by decide +kernel
theorem dd_134_0 : (List.range 100).all (fun q => dm_chk 134 (0 + q)) = true := by decide +kernel
theorem dd_134 (pc : Nat) (h : pc < 700) : dm_chk 134 pc = true := (fun h1 : 0 ≤ pc => (Nat.lt_or_ge pc 100).elim (fun h2 => dm_seg 0 100 dd_134_0 h1 h2) (fun h1 => (Nat.lt_or_ge pc 700).elim (fun h2 => dm_seg 100 600 dd_134_100 h1 h2) (fun h1 => absurd h (by omega)))) (Nat.zero_le pc)
theorem dd_135_0 : (List.range 700).all (fun q => dm_chk 135 (0 + q)) = true := by decide +kernel
theorem dd_135 (pc : Nat) (h : pc < 700) : dm_chk 135 pc = true := (fun h1 : 0 ≤ pc => (Nat.lt_or_ge pc 700).elim (fun h2 => dm_seg 0 700 dd_135_0 h1 h2) (fun h1 => absurd h (by omega))) (Nat.zero_le pc)
theorem dd_136_100 : (List.range 600).all (fun q => dm_chk 136 (100 + q)) = true := by decide +kernel
theorem dd_136_0 : (List.range 100).all (fun q => dm_chk 136 (0 + q)) = true := by decide +kernel
theorem dd_136 (pc : Nat) (h : pc < 700) : dm_chk 136 pc = true := (fun h1 : 0 ≤ pc => (Nat.lt_or_ge pc 100).elim (fun h2 => dm_seg 0 100 dd_136_0 h1 h2) (fun h1 => (Nat.lt_or_ge pc 700).elim (fun h2 => dm_seg 100 600 dd_136_100 h1 h2) (fun h1 => absurd h (by omega)))) (Nat.zero_le pc)
theorem dd_137_0 : (List.range 700).all (fun q => dm_chk 137 (0 + q)) = true := by decide +kernel
theorem dd_137 (pc : Nat) (h : pc < 700) : dm_chk 137 pc = true := (fun h1 : 0 ≤ pc => (Nat.lt_or_ge pc 700).elim (fun h2 => dm_seg 0 700 dd_137_0 h1 h2) (fun h1 => absurd h (by omega))) (Nat.zero_le pc)
theorem dd_138_0 : (List.range 700).all (fun q => dm_chk 138 (0 + q)) = true := by decide +kernel
theorem dd_138 (pc : Nat) (h : pc < 700) : dm_chk 138 pc = true := (fun h1 : 0 ≤ pc => (Nat.lt_or_ge pc 700).elim (fun h2 => dm_seg 0 700 dd_138_0 h1 h2) (fun h1 => absurd h (by omega))) (Nat.zero_le pc)
theorem dd_139_0 : (List.range 700).all (fun q => dm_chk 139 (0 + q)) = true := by decide +kernel
theorem dd_139 (pc : Nat) (h : pc < 700) : dm_chk 139 pc = true := (fun h1 : 0 ≤ pc => (Nat.lt_or_ge pc 700).elim (fun h2 => dm_seg 0 700 dd_139_0 h1 h2) (fun h1 => absurd h (by omega))) (Nat.zero_le pc)
theorem dd_140_0 : (List.range 700).all (fun q => dm_chk 140 (0 + q)) = true := by decide +kernel
theorem dd_140 (pc : Nat) (h : pc < 700) : dm_chk 140 pc = true := (fun h1 : 0 ≤ pc => (Nat.lt_or_ge pc 700).elim (fun h2 => dm_seg 0 700 dd_140_0 h1 h2) (fun h1 => absurd h (by omega))) (Nat.zero_le pc)
theorem dd_141_0 : (List.range 700).all (fun q => dm_chk 141 (0 + q)) = true := by decide +kernel
theorem dd_141 (pc : Nat) (h : pc < 700) : dm_chk 141 pc = true := (fun h1 : 0 ≤ pc => (Nat.lt_or_ge pc 700).elim (fun h2 => dm_seg 0 700 dd_141_0 h1 h2) (fun h1 => absurd h (by omega))) (Nat.zero_le pc)
theorem dd_142_600 : (List.range 100).all (fun q => dm_chk 142 (600 + q)) = true := by decide +kernel
theorem dd_142_500 : (List.range 100).all (fun q => dm_chk 142 (500 + q)) = true := by decide +kernel
theorem dd_142_400 : (List.range 100).all (fun q => dm_chk 142 (400 + q)) = true := by decide +kernel
theorem dd_142_300 : (List.range 100).all (fun q => dm_chk 142 (300 + q)) = true := by decide +kernel
theorem dd_142_200 : (List.range 100).all (fun q => dm_chk 142 (200 + q)) = true := by decide +kernel
theorem dd_142_100 : (List.range 100).all (fun q => dm_chk 142 (100 + q)) = true := by decide +kernel
theorem dd_142_0 : (List.range 100).all (fun q => dm_chk 142 (0 + q)) = true := by decide +kernel
theorem dd_142 (pc : Nat) (h : pc < 700) : dm_chk 142 pc = true := (fun h1 : 0 ≤ pc => (Nat.lt_or_ge pc 100).elim (fun h2 => dm_seg 0 100 dd_142_0 h1 h2) (fun h1 => (Nat.lt_or_ge pc 200).elim (fun h2 => dm_seg 100 100 dd_142_100 h1 h2) (fun h1 => (Nat.lt_or_ge pc 300).elim (fun h2 => dm_seg 200 100 dd_142_200 h1 h2) (fun h1 => (Nat.lt_or_ge pc 400).elim (fun h2 => dm_seg 300 100 dd_142_300 h1 h2) (fun h1 => (Nat.lt_or_ge pc 500).elim (fun h2 => dm_seg 400 100 dd_142_400 h1 h2) (fun h1 => (Nat.lt_or_ge pc 600).elim (fun h2 => dm_seg 500 100 dd_142_500 h1 h2) (fun h1 => (Nat.lt_or_ge pc 700).elim (fun h2 => dm_seg 600 100 dd_142_600 h1 h2) (fun h1 => absurd h (by omega))))))))) (Nat.zero_le pc)
theorem dd_all : ∀ mi, mi < 143 → ∀ pc, pc < 700 → dm_chk mi pc = true := (lt_s (lt_s (lt_s (lt_s (lt_s (lt_s (lt_s (lt_s (lt_s (lt_s (lt_s (lt_s (lt_s (lt_s (lt_s (lt_s (lt_s (lt_s (lt_s (lt_s (lt_s (lt_s (lt_s (lt_s (lt_s (lt_s (lt_s (lt_s (lt_s (lt_s (lt_s (lt_s (lt_s (lt_s (lt_s (lt_s (lt_s (lt_s (lt_s (lt_s (lt_s (lt_s (lt_s (lt_s (lt_s (lt_s (lt_s (lt_s (lt_s (lt_s (lt_s (lt_s (lt_s (lt_s (lt_s (lt_s (lt_s (lt_s (lt_s (lt_s (lt_s (lt_s (lt_s (lt_s (lt_s (lt_s (lt_s (lt_s (lt_s (lt_s (lt_s (lt_s (lt_s (lt_s (lt_s (lt_s (lt_s (lt_s (lt_s (lt_s (lt_s (lt_s (lt_s (lt_s (lt_s (lt_s (lt_s (lt_s (lt_s (lt_s (lt_s (lt_s (lt_s (lt_s (lt_s (lt_s (lt_s (lt_s (lt_s (lt_s (lt_s (lt_s (lt_s (lt_s (lt_s (lt_s (lt_s (lt_s (lt_s (lt_s (lt_s (lt_s (lt_s (lt_s (lt_s (lt_s (lt_s (lt_s (lt_s (lt_s (lt_s (lt_s (lt_s (lt_s (lt_s (lt_s (lt_s (lt_s (lt_s (lt_s (lt_s (lt_s (lt_s (lt_s (lt_s (lt_s (lt_s (lt_s (lt_s (lt_s (lt_s (lt_s (lt_s (lt_0 (p := fun mi => ∀ pc, pc < 700 → dm_chk mi pc = true)) dd_0) dd_1) dd_2) dd_3) dd_4) dd_5) dd_6) dd_7) dd_8) dd_9) dd_10) dd_11) dd_12) dd_13) dd_14) dd_15) dd_16) dd_17) dd_18) dd_19) dd_20) dd_21) dd_22) dd_23) dd_24) dd_25) dd_26) dd_27) dd_28) dd_29) dd_30) dd_31) dd_32) dd_33) dd_34) dd_35) dd_36) dd_37) dd_38) dd_39) dd_40) dd_41) dd_42) dd_43) dd_44) dd_45) dd_46) dd_47) dd_48) dd_49) dd_50) dd_51) dd_52) dd_53) dd_54) dd_55) dd_56) dd_57) dd_58) dd_59) dd_60) dd_61) dd_62) dd_63) dd_64) dd_65) dd_66) dd_67) dd_68) dd_69) dd_70) dd_71) dd_72) dd_73) dd_74) dd_75) dd_76) dd_77) dd_78) dd_79) dd_80) dd_81) dd_82) dd_83) dd_84) dd_85) dd_86) dd_87) dd_88) dd_89) dd_90) dd_91) dd_92) dd_93) dd_94) dd_95) dd_96) dd_97) dd_98) dd_99) dd_100) dd_101) dd_102) dd_103) dd_104) dd_105) dd_106) dd_107) dd_108) dd_109) dd_110) dd_111) dd_112) dd_113) dd_114) dd_115) dd_116) dd_117) dd_118) dd_119) dd_120) dd_121) dd_122) dd_123) dd_124) dd_125) dd_126) dd_127) dd_128) dd_129) dd_130) dd_131) dd_132) dd_133) dd_134) dd_135) dd_136) dd_137) dd_138) dd_139) dd_140) dd_141) dd_142)
theorem dm_decode {mi pc : Nat} {i : Instr} (h : dm_code mi pc = some i) : ∃ r, dm_ms[mi]? = some r ∧ decode r.2.1 pc = .ok (i, dm_len pc i) := by
  have hb : mi < 143 ∧ pc < 700 := by
    by_cases h1 : (Nat.blt mi 143 && Nat.blt pc 700) = true
    · simpa [Nat.blt_eq] using h1
    · exfalso
      unfold dm_code at h
      rw [Bool.eq_false_iff.mpr h1] at h
      exact absurd h (by simp)
  have h2 := dd_all mi hb.1 pc hb.2
  unfold dm_chk at h2
  rw [h] at h2
  dsimp only at h2
  split at h2
  · exact absurd h2 (by simp)
  · rename_i r hr
    exact ⟨r, hr, of_decide_eq_true h2⟩
