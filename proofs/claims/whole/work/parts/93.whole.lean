/-! A NEW PAIR, AND THE WHOLE -/
section WHO
def P0 : dP := (0, fun _ => 0, fun _ _ => 0, fun _ _ => 0, fun _ => 0, fun _ => 0, fun _ => false, fun _ => false, fun _ _ => false, fun j => ([2, 1, 5, 30, 3] : List Nat).getD j 0)
theorem P0_Wf : Wf P0 := ⟨Nat.zero_le _, fun s hs => absurd hs (Nat.not_lt_zero s), by decide, by decide, by decide, by decide, by decide, fun s o h => by cases (show false = true from h)⟩
theorem P0_pr {j : Nat} (hj : j < 5) : prc j = Int32.ofNat (pPr P0 j) := by
  have h : j = 0 ∨ j = 1 ∨ j = 2 ∨ j = 3 ∨ j = 4 := by omega
  rcases h with rfl | rfl | rfl | rfl | rfl <;> rfl
theorem P0_ov {s : Nat} (hs : s < 8) : sg0 3 s = Int32.ofNat (ovm P0 s 8) := by
  have h : s = 0 ∨ s = 1 ∨ s = 2 ∨ s = 3 ∨ s = 4 ∨ s = 5 ∨ s = 6 ∨ s = 7 := by omega
  rcases h with rfl | rfl | rfl | rfl | rfl | rfl | rfl | rfl <;> rfl
theorem no_s {Q : Nat → Prop} (s : Nat) (hs : s < pM P0) : Q s := absurd hs (Nat.not_lt_zero s)
theorem rel_new : REL (fun _ => false) 48 296 sg0 := by
  refine Or.inl ⟨P0, (0, 0, -1), 0, 0, fun _ => none, 0, 0, ⟨P0_Wf, Nat.zero_le _, Nat.zero_le _, Nat.zero_le _, fun s x h => by cases h⟩, ?_, ?_⟩
  · exact ⟨⟨rfl, fun j hj => P0_pr hj, no_s, fun s hs => P0_ov hs⟩, no_s, ⟨rfl, rfl, rfl, rfl⟩, rfl, ⟨0, 0, Nat.le_refl _, Nat.zero_le _, rfl, rfl⟩, rfl, rfl, no_s, rfl, rfl, Or.inl rfl, Or.inl rfl⟩
  · exact ⟨⟨rfl, fun j hj => P0_pr hj, no_s, fun s o hs ho => absurd hs (Nat.not_lt_zero s)⟩, ⟨rfl, rfl, rfl, Nat.zero_le _, Nat.zero_le _⟩, rfl, rfl, ⟨[], ⟨rfl, rfl, fun p f h => by cases h⟩, Nat.zero_le _, Nat.zero_le _, fun f h => (by cases h), rfl⟩, no_s, rfl, rfl⟩
theorem dm_pure : dm_Pure := by
  intro L xs hL
  obtain ⟨t, H, ht, e, hg⟩ := law_pre (L := L) (xs := xs)
  have S : StL t 0 (296, t, hp H (SH (fun _ => false) 48) sg0) := ⟨296, t, H, fun _ => false, 48, sg0, rfl, hg, Nat.le_refl _, rel_new, by omega, by omega⟩
  obtain ⟨N', h', a1, ⟨c', t', g', fl', tg', σ', e', -, -, -, b1, b2⟩, a3⟩ := law_go (xs := xs) hL 512 0 _ .null .null S (by omega) (by omega)
  obtain ⟨n, hn⟩ := dX_iff.mp (e.trans a3)
  refine ⟨n, h', hn, ?_, ?_⟩
  · rw [e']; show c' ≤ 601024
    have : (if tg' = 48 then 0 else 2) ≤ 2 := by split <;> omega
    omega
  · rw [e']; show t' ≤ 7293034
    have : (if tg' = 48 then 0 else 30360) ≤ 30360 := by split <;> omega
    omega
theorem i_vc : Claimed_1_1 ∧ Claimed_1_2 := dm_whole dm_pure
end WHO
