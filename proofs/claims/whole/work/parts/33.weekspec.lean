/-! a week -/
/-- what holds of a sea's numbers: drops and shares are small, salt too -/
def okSea (π : qPl) (ρ : Nat → Int32) : Prop := ∃ (r s : Nat → Nat) (z : Nat), (∀ k, k < 40 → ρ k = nI (r k)) ∧ sumN r 40 ≤ π.1 4 ∧ (∀ h, h < 8 → ρ (48 + h) = nI (s h)) ∧ sumN s 8 ≤ 792 ∧ ρ 65 = nI z ∧ z ≤ 1000000000
def rOf (ρ : Nat → Int32) (k : Nat) : Nat := (ρ k).toNatClampNeg
theorem rOf_eq {ρ : Nat → Int32} {r : Nat → Nat} (hr : ∀ k, k < 40 → ρ k = nI (r k)) (hb : ∀ k, k < 40 → r k < 2 ^ 31) : ∀ k, k < 40 → rOf ρ k = r k := fun k hk => by
  unfold rOf
  rw [hr k hk, nI_clamp (hb k hk)]
theorem okSea.r {π : qPl} {ρ : Nat → Int32} (h : okSea π ρ) (hok : okPl π) : (∀ k, k < 40 → ρ k = nI (rOf ρ k)) ∧ sumN (rOf ρ) 40 ≤ π.1 4 := by
  obtain ⟨r, s, z, h1, h2, -⟩ := h
  have hb : ∀ k, k < 40 → r k < 2 ^ 31 := fun k hk => by have := sumN_get (f := r) 40 k hk; have := hok.2.2.2.2.1; omega
  have e := rOf_eq h1 hb
  exact ⟨fun k hk => by rw [e k hk]; exact h1 k hk, by rw [sumN_congr 40 e]; exact h2⟩
def dryF (ρ : Nat → Int32) (n : Nat) : Nat → Int32 := dryR ρ (rOf ρ) n
def tickF (ρ : Nat → Int32) : Nat → Int32 := fun j => if j = 64 then ρ 64 + 1 else ρ j
def sendF (π : qPl) (k : Nat) (n : Int32) (ρ : Nat → Int32) : Nat → Int32 := letInF (nI (π.1 4)) (π.2.1 6 k) (π.2.1 7 k) (nI (π.2.1 0 (π.2.1 7 k))) n ρ
/-- the first n sends, but those of a heir that is away -/
def sendsF (π : qPl) (away : Int32) (ρ : Nat → Int32) : Nat → Nat → Int32
  | 0 => ρ
  | k + 1 => if nI (π.2.1 6 k) = away then sendsF π away ρ k else sendF π k (tellF π (sendsF π away ρ k) k) (sendsF π away ρ k)
def weekF (π : qPl) (away : Int32) (ρ : Nat → Int32) : Nat → Int32 := tickF (dryF (sendsF π away ρ (π.1 2)) (dryTellF π (sendsF π away ρ (π.1 2))).toNatClampNeg)
def weeksF (π : qPl) (away : Int32) (ρ : Nat → Int32) : Nat → Nat → Int32
  | 0 => ρ
  | n + 1 => weekF π away (weeksF π away ρ n)
/-- numbers in range stay so -/
theorem clampI {lo hi : Nat} (h : lo ≤ hi) (hh : hi < 2 ^ 31) (x : Int32) : ∃ j : Nat, maxI (nI lo) (minI (nI hi) x) = nI j ∧ lo ≤ j ∧ j ≤ hi := by
  unfold maxI minI
  by_cases h1 : x < nI hi
  · rw [if_pos h1]
    by_cases h2 : nI lo < x
    · rw [if_pos h2]
      have h3 : ¬ x < 0 := by
        intro z
        have a1 := Int32.lt_iff_toInt_lt.mp h2
        have a2 := Int32.lt_iff_toInt_lt.mp z
        rw [nI_toInt (by omega)] at a1
        have a3 : (0 : Int32).toInt = 0 := by decide
        omega
      obtain ⟨j, hj, rfl⟩ := nI_of h3
      exact ⟨j, rfl, Nat.le_of_lt ((nI_ltI (by omega) hj).mp h2), Nat.le_of_lt ((nI_ltI hj hh).mp h1)⟩
    · rw [if_neg h2]
      exact ⟨lo, rfl, Nat.le_refl _, h⟩
  · rw [if_neg h1]
    by_cases h2 : nI lo < nI hi
    · rw [if_pos h2]
      exact ⟨hi, rfl, h, Nat.le_refl _⟩
    · rw [if_neg h2]
      exact ⟨lo, rfl, Nat.le_refl _, h⟩
theorem tellF_in (π : qPl) (ρ : Nat → Int32) (k : Nat) : ∃ j : Nat, tellF π ρ k = nI j ∧ j ≤ 99 := by
  obtain ⟨j, h1, -, h3⟩ := clampI (lo := 0) (hi := 99) (by omega) (by omega) (π.2.2 k (varsF (ρ 64) (allF ρ) (ρ 65) (ρ (48 + π.2.1 6 k)) (ρ (56 + π.2.1 6 k)) (lotF (nI (π.1 5)) (20 * ρ 64 + nI k))))
  exact ⟨j, h1, h3⟩
theorem okSea.all {π : qPl} {ρ : Nat → Int32} (h : okSea π ρ) (hok : okPl π) : ∃ A : Nat, allF ρ = nI A ∧ A ≤ π.1 4 ∧ A = sumN (rOf ρ) 40 := by
  obtain ⟨h1, h2⟩ := h.r hok
  exact ⟨_, allF_nat h1, h2, rfl⟩
theorem dryTellF_in {π : qPl} {ρ : Nat → Int32} (h : okSea π ρ) (hok : okPl π) : ∃ j : Nat, dryTellF π ρ = nI j ∧ j ≤ sumN (rOf ρ) 40 := by
  obtain ⟨A, h1, h2, h3⟩ := h.all hok
  unfold dryTellF
  rw [h1]
  obtain ⟨j, h4, -, h5⟩ := clampI (lo := 0) (hi := A) (by omega) (by have := hok.2.2.2.2.1; omega) (π.2.2 16 (varsF (ρ 64) (nI A) (ρ 65) (sumO ρ 48) (sumO ρ 56) (lotF (nI (π.1 5)) (20 * ρ 64 + 19))))
  exact ⟨j, h4, by omega⟩
theorem comesF_in {π : qPl} {ρ : Nat → Int32} (h : okSea π ρ) (hok : okPl π) {n : Nat} (hn : n ≤ 99) : ∃ c : Nat, comesF (nI (π.1 4)) (nI n) ρ = nI c ∧ c ≤ n ∧ sumN (rOf ρ) 40 + c ≤ π.1 4 := by
  obtain ⟨A, h1, h2, h3⟩ := h.all hok
  have hb := hok.2.2.2.2.1
  unfold comesF minI
  rw [h1, pk_sub h2]
  by_cases hc : nI (π.1 4 - A) < nI n
  · rw [if_pos hc]
    have := (nI_ltI (by omega) (by omega)).mp hc
    exact ⟨_, rfl, by omega, by omega⟩
  · rw [if_neg hc]
    have : ¬ (π.1 4 - A < n) := fun z => hc ((nI_ltI (by omega) (by omega)).mpr z)
    exact ⟨_, rfl, by omega, by omega⟩
theorem okSea.send {π : qPl} {ρ : Nat → Int32} (h : okSea π ρ) (hok : okPl π) {k n : Nat} (hk : k < π.1 2) (hn : n ≤ 99) : okSea π (sendF π k (nI n) ρ) := by
  obtain ⟨h1, h2⟩ := h.r hok
  obtain ⟨c, hc1, hc2, hc3⟩ := comesF_in h hok hn
  obtain ⟨r, s, z, -, -, g3, g4, g5, g6⟩ := h
  have hkk := hok.2.2.2.2.2.2.2.2 k hk
  have hh8 := hok.2.1
  have hw5 := hok.1
  have hsalt := (hok.2.2.2.2.2.2.1 (π.2.1 7 k) hkk.2).1
  unfold sendF
  generalize π.2.1 6 k = hh at *
  generalize π.2.1 7 k = w at *
  generalize π.2.1 0 w = sl at *
  refine ⟨fun j => if j = 5 * hh + w then rOf ρ j + c else rOf ρ j, s, if 1000000000 < z + c * sl then 1000000000 else z + c * sl, fun j hj => ?_, ?_, fun j hj => ?_, g4, ?_, by split <;> omega⟩
  · unfold letInF
    rw [hc1]
    dsimp only
    by_cases e : j = 5 * hh + w
    · rw [if_pos e, if_pos e, h1 j hj, nI_add]
    · rw [if_neg e, if_neg (by omega), if_neg (by omega), if_neg (by omega), if_neg e, h1 j hj]
  · have e := sumN_one (f := fun j => if j = 5 * hh + w then rOf ρ j + c else rOf ρ j) (h := rOf ρ) (c := 5 * hh + w) 40 (by omega) (fun j hj hjc => if_neg hjc)
    rw [if_pos rfl] at e
    omega
  · unfold letInF
    rw [if_neg (by omega), if_neg (by omega), if_neg (by omega), if_neg (by omega), g3 j hj]
  · unfold letInF
    rw [hc1, if_neg (by omega), if_neg (by omega), if_neg (by omega), if_pos rfl, g5, pk_mul, nI_add]
    unfold minI
    have hm : c * sl ≤ 99 * 99 := Nat.mul_le_mul (by omega) hsalt
    rw [show (1000000000 : Int32) = nI 1000000000 from rfl]
    by_cases hl : 1000000000 < z + c * sl
    · rw [if_pos hl, if_neg (fun q => by have := (nI_ltI (by omega) (by omega)).mp q; omega)]
    · rw [if_neg hl]
      by_cases hl2 : nI (z + c * sl) < nI 1000000000
      · rw [if_pos hl2]
      · rw [if_neg hl2]
        have : ¬ (z + c * sl < 1000000000) := fun q => hl2 ((nI_ltI (by omega) (by omega)).mpr q)
        congr 1
        omega
theorem okSea.sends {π : qPl} {ρ : Nat → Int32} {away : Int32} (h : okSea π ρ) (hok : okPl π) : ∀ k, k ≤ π.1 2 → okSea π (sendsF π away ρ k)
  | 0, _ => h
  | k + 1, hk => by
    have ih := h.sends (away := away) hok k (by omega)
    show okSea π (if _ then _ else _)
    split
    · exact ih
    · obtain ⟨j, h1, h2⟩ := tellF_in π (sendsF π away ρ k) k
      rw [h1]
      exact ih.send hok (by omega) h2
theorem dryX_bound {r : Nat → Nat} {n A : Nat} (hA : sumN r 40 = A) (h0 : 0 < A) (hn : n ≤ A) : ∀ i, i ≤ lackN r n A → ∀ k, k < 40 → gN r n A k + dryX (tN r n A) i k ≤ r k ∧ (dryX (tN r n A) i k = 0 ∨ dryT (tN r n A) i k = 0)
  | 0, _, k, hk => ⟨by
      show r k * n / A + 0 ≤ r k
      have : r k * n / A ≤ r k * A / A := Nat.div_le_div_right (Nat.mul_le_mul_left _ hn)
      rw [Nat.mul_div_cancel _ h0] at this
      omega, Or.inl rfl⟩
  | i + 1, hi, k, hk => by
    obtain ⟨h1, h2⟩ := dryX_bound hA h0 hn i (by omega) k hk
    have hp := dry_pos (r := r) (n := n) (i := i) hA h0 (by omega)
    show gN r n A k + (dryX (tN r n A) i k + (if k = amax (dryT (tN r n A) i) 39 then 1 else 0)) ≤ r k ∧ (dryX (tN r n A) i k + (if k = amax (dryT (tN r n A) i) 39 then 1 else 0) = 0 ∨ (if k = amax (dryT (tN r n A) i) 39 then 0 else dryT (tN r n A) i k) = 0)
    by_cases e : k = amax (dryT (tN r n A) i) 39
    · rw [if_pos e, if_pos e]
      rw [← e] at hp
      have hx : dryX (tN r n A) i k = 0 := by rcases h2 with h | h <;> omega
      refine ⟨?_, Or.inr rfl⟩
      have ht : 0 < tN r n A k := Nat.lt_of_lt_of_le hp (dryT_le _ i k)
      have hd := Nat.div_add_mod (r k * n) A
      have hd2 : A * gN r n A k + tN r n A k = r k * n := hd
      rw [hx]
      have h5 : r k * n ≤ r k * A := Nat.mul_le_mul_left _ hn
      have h6 : A * gN r n A k < A * r k := by rw [Nat.mul_comm A (r k)]; omega
      have h7 := Nat.lt_of_mul_lt_mul_left h6
      omega
    · rw [if_neg e, if_neg e]
      exact ⟨by omega, by rcases h2 with h | h; exact Or.inl (by omega); exact Or.inr h⟩
theorem okSea.dry {π : qPl} {ρ : Nat → Int32} (h : okSea π ρ) (hok : okPl π) {n : Nat} (hn : n ≤ sumN (rOf ρ) 40) : okSea π (dryF ρ n) ∧ (∃ d : Nat → Nat, ∀ k, k < 40 → dryF ρ n k = nI (d k)) := by
  obtain ⟨h1, h2⟩ := h.r hok
  obtain ⟨r, s, z, -, -, g3, g4, g5, g6⟩ := h
  by_cases h0 : sumN (rOf ρ) 40 = 0
  · have : n = 0 := by omega
    subst this
    unfold dryF
    rw [dryR_0]
    exact ⟨⟨rOf ρ, s, z, h1, h2, g3, g4, g5, g6⟩, rOf ρ, h1⟩
  · have hb := dryX_bound (r := rOf ρ) (n := n) rfl (Nat.pos_of_ne_zero h0) hn (lackN (rOf ρ) n (sumN (rOf ρ) 40)) (Nat.le_refl _)
    have e : ∀ k, k < 40 → dryF ρ n k = nI (rOf ρ k - gN (rOf ρ) n (sumN (rOf ρ) 40) k - dryX (tN (rOf ρ) n (sumN (rOf ρ) 40)) (lackN (rOf ρ) n (sumN (rOf ρ) 40)) k) := fun k hk => by
      have := (hb k hk).1
      unfold dryF dryR
      rw [if_pos hk, h1 k hk, pk_sub (by omega), pk_sub (by omega)]
    have hle : ∀ m (f q : Nat → Nat), (∀ k, k < m → f k ≤ q k) → sumN f m ≤ sumN q m := by
      intro m
      induction m with
      | zero => intro f q _; exact Nat.le_refl _
      | succ m ih =>
        intro f q hfq
        have a1 := ih f q (fun k hk => hfq k (by omega))
        have a2 := hfq m (by omega)
        show sumN f m + f m ≤ sumN q m + q m
        omega
    have out : ∀ j, 40 ≤ j → dryF ρ n j = ρ j := fun j hj => by unfold dryF dryR; rw [if_neg (by omega)]
    refine ⟨⟨_, s, z, e, Nat.le_trans (hle 40 _ (rOf ρ) (fun k hk => by omega)) h2, fun j hj => by rw [out _ (by omega)]; exact g3 j hj, g4, by rw [out _ (by omega)]; exact g5, g6⟩, _, e⟩
theorem okSea.tick {π : qPl} {ρ : Nat → Int32} (h : okSea π ρ) : okSea π (tickF ρ) := by
  obtain ⟨r, s, z, g1, g2, g3, g4, g5, g6⟩ := h
  have e : ∀ j, j ≠ 64 → tickF ρ j = ρ j := fun j hj => by unfold tickF; rw [if_neg hj]
  exact ⟨r, s, z, fun k hk => by rw [e _ (by omega)]; exact g1 k hk, g2, fun k hk => by rw [e _ (by omega)]; exact g3 k hk, g4, by rw [e _ (by omega)]; exact g5, g6⟩
theorem okSea.week {π : qPl} {ρ : Nat → Int32} {away : Int32} (h : okSea π ρ) (hok : okPl π) : okSea π (weekF π away ρ) := by
  have h1 := h.sends (away := away) hok (π.1 2) (Nat.le_refl _)
  obtain ⟨j, h2, h3⟩ := dryTellF_in h1 hok
  have h4 : (nI j).toNatClampNeg = j := nI_clamp (by have := (h1.r hok).2; have := hok.2.2.2.2.1; omega)
  unfold weekF
  rw [h2, h4]
  exact (h1.dry hok h3).1.tick
theorem okSea.weeks {π : qPl} {ρ : Nat → Int32} {away : Int32} (h : okSea π ρ) (hok : okPl π) : ∀ n, okSea π (weeksF π away ρ n)
  | 0 => h
  | n + 1 => (h.weeks hok n).week hok
theorem okSea.begin {π : qPl} (hok : okPl π) : okSea π (beginF π) := by
  refine ⟨fun _ => 0, fun h => if h < π.1 1 then π.2.1 2 h else 0, 0, fun k hk => by unfold beginF; rw [if_neg (by omega)]; rfl, by rw [sumN_zero 40 (fun _ _ => rfl)]; omega, fun h hh => ?_, ?_, by unfold beginF; rw [if_neg (by have := hok.2.1; omega)]; rfl, by omega⟩
  · unfold beginF
    dsimp only
    by_cases e : h < π.1 1
    · rw [if_pos (by omega), if_pos e, show 48 + h - 48 = h by omega]
    · rw [if_neg (by omega), if_neg e]; rfl
  · have hb : ∀ m, m ≤ 8 → sumN (fun h => if h < π.1 1 then π.2.1 2 h else 0) m ≤ 99 * m := by
      intro m
      induction m with
      | zero => intro _; exact Nat.le_refl _
      | succ m ih =>
        intro hm
        have a1 := ih (by omega)
        show sumN _ m + (if m < π.1 1 then π.2.1 2 m else 0) ≤ 99 * (m + 1)
        by_cases e : m < π.1 1
        · have := (hok.2.2.2.2.2.2.2.1 m e).1
          rw [if_pos e]
          omega
        · rw [if_neg e]
          omega
    exact hb 8 (by omega)
