/-! BOTH HALVES TOGETHER: one call of the law -/
section PAI
def REL (fl : Nat → Bool) (tg c : Nat) (σ : dSg) : Prop :=
  (∃ P A T w e n j, Ok0 P A T e ∧ CN P A T w e n j fl tg c σ ∧ MN P A T w e n j σ) ∨ ∃ P A sum k os ob T n j, OkR P A sum k os ob T ∧ CR P A sum k os ob T n j fl tg c σ ∧ MR P A sum k os ob T n j σ
/-- the law's long[1] -/
def Lg1 (g : Nat → Option dE) : Prop := ∃ z, g 295 = some (.inl (4, 1, .inr (.inl z)))
/-- the law's heap after N calls; t0 is what the constructors took -/
def StL (t0 : Nat) (N : Nat) (h : dH) : Prop := ∃ c t g fl tg σ, h = (c, t, hp g (SH fl tg) σ) ∧ Lg1 g ∧ 296 ≤ c ∧ REL fl tg c σ ∧ c ≤ 296 + 2 * N + (if tg = 48 then 0 else 2) ∧ t ≤ t0 + 24 * N + (if tg = 48 then 0 else 30360)
def PQ (t0 : Nat) (N : Nat) (h : dH) (a b : dH → Option (Option Value × dH)) : Prop := (dm_obj h 0 6).isSome = true ∧ ∃ r h1 h2, a h = some (some (.int r), h1) ∧ (dm_obj h1 270 7).isSome = true ∧ b h1 = some (some (.int r), h2) ∧ StL t0 (N + 1) h2
variable {t0 N : Nat} {tb : dT} {d c t : Nat} {g : Nat → Option dE} {fl : Nat → Bool} {tg : Nat} {σ : dSg} {P : dP} {A : dA} {os ob : Nat → Nat} {sum : Option Nat} {k T w : Nat} {e : Nat → Option Nat} {n j : Int32}
theorem CR_congr {τ : dSg} {c' : Nat} (W : Wf P) (hl : ((phZ P A os ob k).filter nz).length ≤ 209) (h : ∀ a, a < 270 → τ a = σ a) (hc : c ≤ c') (H : CR P A sum k os ob T n j fl tg c σ) : CR P A sum k os ob T n j fl tg c' τ := by
  have hm := W.1
  obtain ⟨C, Lg, Pl, Pb, h46, h11, h12, h13, h14, hg, pre, f, post, r1, r2, r3, r4, r5, r6, r7⟩ := H
  refine ⟨ShC_congr W C fun a ha => h a (by omega), LgC_congr (fun a a1 a2 => h a a2) (by rw [h 57 (by omega)]) (by rw [h 57 (by omega)]) hl Lg, ?_, Pb, ?_, ?_, ?_, ?_, ?_, ?_, pre, f, post, r1, r2, r3, ZC_congr (by rw [h 45 (by omega)]) (by rw [h 45 (by omega)]) (fun i _ => by rw [h 57 (by omega)]) (fun s hs => h _ (by omega)) W r4, ?_, ?_, ?_⟩
  · unfold PlC OrC
    rw [h 46 (by omega), h 53 (by omega), h 54 (by omega), h 55 (by omega), h 56 (by omega)]; exact Pl
  · rw [h 46 (by omega)]; exact h46
  · rw [h 57 (by omega)]; exact h11
  · rw [h 57 (by omega)]; exact h12
  · rw [h 57 (by omega)]; exact h13
  · rw [h 57 (by omega)]; exact h14
  · rcases hg with q | q
    · exact Or.inl q
    · exact Or.inr ⟨q.1, by omega⟩
  · rw [h 57 (by omega)]; exact r5
  · rw [h 45 (by omega)]; exact r6
  · rw [h 45 (by omega)]; exact r7
theorem MR_congr {τ : dSg} (h : ∀ a, 270 ≤ a → a < 295 → τ a = σ a) (H : MR P A sum k os ob T n j σ) : MR P A sum k os ob T n j τ := by
  obtain ⟨C, hA, Ph, En, Or', h21, h22, h23, h36, h14, h15⟩ := H
  have e := h 270 (by omega) (by omega)
  refine ⟨ShM_congr C (fun a a1 a2 => h a (by omega) (by omega)) (by rw [e]), ?_, PhM_congr (fun a a1 a2 => h a (by omega) (by omega)) (by rw [e]) (by rw [e]) Ph, fun s hs => ?_, fun i hi => ?_, ?_, ?_, ?_, ?_, ?_, ?_⟩
  · unfold ArM; rw [e]; exact hA
  · rw [h 294 (by omega) (by omega)]; exact En s hs
  · rw [h 281 (by omega) (by omega), h 282 (by omega) (by omega), h 283 (by omega) (by omega), h 284 (by omega) (by omega)]; exact Or' i hi
  · rw [e]; exact h21
  · rw [e]; exact h22
  · rw [e]; exact h23
  · rw [e]; exact h36
  · rw [e]; exact h14
  · rw [e]; exact h15
theorem MN_row {τ : dSg} (h : ∀ a, 270 ≤ a → a < 295 → τ a = σ a) (H : MN P A T w e n j σ) : MN P A T w e n j τ := MN_congr (fun a a1 a2 => h a (by omega) a2) (fun k _ => by rw [h 270 (by omega) (by omega)]) H
theorem MN_thr (H : MN P A T w e n j σ) : MN P A T w e n j (up2 σ 270 0 0) := MN_congr (fun a a1 _ => up2_row _ _ (by omega)) (fun k hk => up2_n _ _ (by omega)) H
theorem thr_row : ∀ a, a < 270 → up2 σ 270 0 0 a = σ a := fun a ha => up2_row _ _ (by omega)
theorem okR_len (R : OkR P A sum k os ob T) : ((phZ P A os ob k).filter nz).length ≤ 209 := by
  obtain ⟨W, hx, hy, hk, h8, hp1, hT⟩ := R
  exact Nat.le_trans (fil_len _) (phZ_len (A := A) W (pl_ok hp1 hk h8).1 hx hy).1
/-- a call that changes nothing but thrown, at rest -/
theorem rel_thrN (hO : Ok0 P A T e) (HC : CN P A T w e n j fl tg c σ) (HM : MN P A T w e n j σ) : REL fl tg c (up2 σ 270 0 0) := Or.inl ⟨P, A, T, w, e, n, j, hO, CN_congr hO.1 thr_row (Nat.le_refl c) HC, MN_thr HM⟩
/-- a call that changes nothing but thrown, running -/
theorem rel_thrR (R : OkR P A sum k os ob T) (HC : CR P A sum k os ob T n j fl tg c σ) (HM : MR P A sum k os ob T n j σ) : REL fl tg c (up2 σ 270 0 0) := Or.inr ⟨P, A, sum, k, os, ob, T, n, j, R, CR_congr R.1 (okR_len R) thr_row (Nat.le_refl c) HC, MR_thr HM⟩
theorem st_of {τ : dSg} (hg : Lg1 g) (hc : 296 ≤ c) (h : REL fl tg c τ) (b1 : c ≤ 296 + 2 * N + (if tg = 48 then 0 else 2)) (b2 : t ≤ t0 + 24 * N + (if tg = 48 then 0 else 30360)) : StL t0 (N + 1) (c, t, hp g (SH fl tg) τ) := ⟨c, t, g, fl, tg, τ, rfl, hg, hc, h, by omega, by omega⟩
theorem pq_stroke {h : dH} (H : StL t0 N h) (x y : Int32) : PQ t0 N h (fun h => dX tb (d + 3) 71 0 [.ref 0, .int x, .int y] [] h) (fun h => dX tb (d + 3) 97 0 [.ref 270, .int x, .int y, .null] [] h) := by
  obtain ⟨c, t, g, fl, tg, σ, rfl, hg, hc, hr, b1, b2⟩ := H
  refine ⟨is_0, ?_⟩
  rcases hr with ⟨P, A, T, w, e, n, j, hO, HC, HM⟩ | ⟨P, A, sum, k, os, ob, T, n, j, R, HC, HM⟩
  · have K := kq_stroke (tb := tb) (d := d) (t := t) (g := g) hO.1 HC x y
    have K' := kq_stroke (tb := tb) (d := d + 1) (t := t) (g := g) hO.1 HC x y
    cases q : okSt P x y
    · exact ⟨-1, _, _, K'.1 q, is_270, (mq_stroke (tb := tb) (d := d + 1) (c := c) (t := t) (g := g) (fl := fl) (tg := tg) hO.1 HM x y).1 q, st_of hg hc (rel_thrN hO HC HM) b1 b2⟩
    · obtain ⟨τ, k1, k2, k3⟩ := K.2 q
      obtain ⟨τ', m1, m2, m3⟩ := (mq_stroke (tb := tb) (d := d + 1) (c := c) (t := t) (g := g) (fl := fl) (tg := tg) hO.1 (MN_row (fun a a1 _ => k3 a a1) HM) x y).2 q
      have q' := q
      unfold okSt at q'
      rw [Bool.and_eq_true, Bool.and_eq_true, decide_eq_true_eq] at q'
      obtain ⟨p, hp3, -, ep⟩ := inR_ex (by omega) q'.2.1
      obtain ⟨u, hu, -, eu⟩ := inR_ex (by omega) q'.2.2
      have W' := strP_Wf hO.1 q'.1 (show tN x ≤ 3 by omega) (show tN y ≤ 1000 by omega)
      refine ⟨_, _, _, k1, is_270, m1, st_of hg hc (Or.inl ⟨_, A, T, w, _, n, j, ⟨W', hO.2.1, hO.2.2.1, hO.2.2.2.1, fun s z hz => ?_⟩, CN_congr W' (fun a ha => m3 a (Or.inl ha)) (Nat.le_refl c) k2, m2⟩) b1 b2⟩
      have hz' : (if s = pM P then none else e s) = some z := hz
      by_cases qs : s = pM P
      · rw [if_pos qs] at hz'; cases hz'
      · rw [if_neg qs] at hz'; exact hO.2.2.2.2 s z hz'
  · exact ⟨-1, _, _, kr_str HC.2.2.2.2.2.1 x y, is_270, mr_str HM.2.2.2.2.2.2.2.1 x y, st_of hg hc (rel_thrR R HC HM) b1 b2⟩
end PAI
