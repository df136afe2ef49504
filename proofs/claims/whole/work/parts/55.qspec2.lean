/-! who crosses, leagues, power, without, asked -/
theorem findN_first {P : Nat → Bool} {m k : Nat} : ∀ i n, i ≤ k → k < i + n → (∀ j, i ≤ j → j < k → P j = false) → P k = true → findN P n i = some k
  | i, 0, h1, h2, _, _ => absurd h2 (by omega)
  | i, n + 1, h1, h2, h3, h4 => by
    rw [findN_s]
    by_cases e : i = k
    · rw [e, h4]
      rfl
    · rw [h3 i (Nat.le_refl _) (by omega)]
      exact findN_first (m := m) (i + 1) n (by omega) (by omega) (fun j a b => h3 j (by omega) b) h4
theorem cntN_zero {P : Nat → Bool} : ∀ n, cntN P n = 0 → ∀ k, k < n → P k = false
  | 0, _, k, h => absurd h (Nat.not_lt_zero _)
  | n + 1, e, k, h => by
    have e1 : cntN P n + (if P n then 1 else 0) = 0 := e
    by_cases hk : k = n
    · subst hk
      cases hp : P k with
      | false => rfl
      | true => rw [hp, if_pos rfl] at e1; omega
    · exact cntN_zero n (by omega) k (by omega)
theorem cntN_0 {P : Nat → Bool} : ∀ n, (∀ k, k < n → P k = false) → cntN P n = 0
  | 0, _ => rfl
  | n + 1, e => by
    show cntN P n + (if P n then 1 else 0) = 0
    rw [cntN_0 n (fun k hk => e k (by omega)), e n (by omega)]
    rfl
theorem beat_iff {ρ : Nat → Int32} {d : Nat → Nat} {hs : Nat} (hd : ∀ k, k < hs → dropsF ρ k = nI (d k)) (hb : ∀ k, k < hs → d k < 2 ^ 31) {h o : Nat} (hh : h < hs) (ho : o < hs) : (dropsF ρ h < dropsF ρ o ∨ (dropsF ρ o = dropsF ρ h ∧ o < h)) ↔ (d h < d o ∨ (d o = d h ∧ o < h)) := by
  rw [hd h hh, hd o ho, nI_ltI (hb h hh) (hb o ho), nI_eq (hb o ho) (hb h hh)]
theorem top_ex {ρ : Nat → Int32} {d : Nat → Nat} {hs : Nat} (h0 : 0 < hs) (hd : ∀ k, k < hs → dropsF ρ k = nI (d k)) (hb : ∀ k, k < hs → d k < 2 ^ 31) : ∃ t, t < hs ∧ topN ρ hs = some t ∧ rankN ρ hs t = 0 ∧ ∀ j, j < hs → d j ≤ d t ∧ (j ≠ t → 0 < rankN ρ hs j) := by
  obtain ⟨g1, g2, g3⟩ := aZ_spec (fun k => (d k : Int)) (hs - 1)
  generalize aZ (fun k => (d k : Int)) (hs - 1) = t at *
  have ht : t < hs := by omega
  have hz : rankN ρ hs t = 0 := cntN_0 hs (fun o ho => decide_eq_false (fun z => by
    have q0 := (beat_iff hd hb ht ho).mp z
    have := g2 o (by omega)
    rcases q0 with z | z
    · omega
    · have := g3 o z.2
      omega))
  have hp : ∀ j, j < hs → j ≠ t → 0 < rankN ρ hs j := fun j hj hjt => Nat.pos_of_ne_zero (fun z => by
    have q := cntN_zero hs z t ht
    have q2 := of_decide_eq_false q
    apply q2
    apply (beat_iff hd hb hj ht).mpr
    have := g2 j (by omega)
    by_cases e : d j = d t
    · by_cases e2 : t < j
      · exact Or.inr ⟨e.symm, e2⟩
      · have := g3 j (by omega)
        omega
    · exact Or.inl (by omega))
  refine ⟨t, ht, ?_, hz, fun j hj => ⟨by have := g2 j (by omega); omega, hp j hj⟩⟩
  exact findN_first (m := 0) 0 hs (Nat.zero_le _) (by omega) (fun j _ hjt => decide_eq_false (by have := hp j (by omega) (by omega); omega)) (decide_eq_true hz)
abbrev bestC (ρ : Nat → Int32) (hs : Nat) (p q : Int32) (j : Nat) : Option Nat → Prop
  | none => allF ρ * p ≤ dropsF ρ j * q
  | some b => allF ρ * p ≤ dropsF ρ j * q ∧ rankN ρ hs j < rankN ρ hs b
def bestF (ρ : Nat → Int32) (hs : Nat) (p q : Int32) : Nat → Option Nat
  | 0 => none
  | j + 1 => match bestF ρ hs p q j with
    | none => if allF ρ * p ≤ dropsF ρ j * q then some j else none
    | some b => if allF ρ * p ≤ dropsF ρ j * q ∧ rankN ρ hs j < rankN ρ hs b then some j else some b
theorem bestF_is {ρ : Nat → Int32} {d : Nat → Nat} {hs A p q : Nat} (hd : ∀ k, k < hs → dropsF ρ k = nI (d k)) (hb : ∀ k, k < hs → d k ≤ A) (hA : allF ρ = nI A) (hA0 : 0 < A) (hA9 : A ≤ 9999) (hp : p ≤ 99) (hq : q ≤ 99) : bestF ρ hs (nI p) (nI q) hs = crossO ρ hs (nI p) (nI q) := by
  have hbb : ∀ k, k < hs → d k < 2 ^ 31 := fun k hk => by have := hb k hk; omega
  have hpos : 0 < allF ρ := by rw [hA]; exact (nI_ltI (a := 0) (by omega) (by omega)).mpr hA0
  have c_iff : ∀ k, k < hs → (allF ρ * nI p ≤ dropsF ρ k * nI q ↔ A * p ≤ d k * q) := fun k hk => by
    have e1 : A * p ≤ 9999 * 99 := Nat.mul_le_mul hA9 hp
    have e2 : d k * q ≤ 9999 * 99 := Nat.mul_le_mul (by have := hb k hk; omega) hq
    rw [hA, hd k hk, pk_mul, pk_mul, nI_leI (by omega) (by omega)]
  by_cases h0 : hs = 0
  · subst h0
    rfl
  obtain ⟨t, ht, e1, e2, e3⟩ := top_ex (by omega) hd hbb
  have hx : crossO ρ hs (nI p) (nI q) = if 0 < allF ρ ∧ allF ρ * nI p ≤ dropsF ρ t * nI q then some t else none := by
    unfold crossO
    rw [e1]
  rw [hx]
  have less : ∀ j, j < hs → d j * q ≤ d t * q := fun j hj => Nat.mul_le_mul_right q (e3 j hj).1
  by_cases hc : allF ρ * nI p ≤ dropsF ρ t * nI q
  · rw [if_pos ⟨hpos, hc⟩]
    have lo : ∀ j, j ≤ t → ∀ b, bestF ρ hs (nI p) (nI q) j = some b → b < j := by
      intro j
      induction j with
      | zero => intro _ b hb; cases hb
      | succ j ih =>
        intro hj b hbb
        have ihj := ih (by omega)
        have e : bestF ρ hs (nI p) (nI q) (j + 1) = (match bestF ρ hs (nI p) (nI q) j with
          | none => if allF ρ * nI p ≤ dropsF ρ j * nI q then some j else none
          | some b => if allF ρ * nI p ≤ dropsF ρ j * nI q ∧ rankN ρ hs j < rankN ρ hs b then some j else some b) := rfl
        rw [e] at hbb
        cases hf : bestF ρ hs (nI p) (nI q) j with
        | none =>
          rw [hf] at hbb
          simp only at hbb
          split at hbb
          · have := Option.some.inj hbb; omega
          · cases hbb
        | some c =>
          rw [hf] at hbb
          have := ihj c hf
          simp only at hbb
          split at hbb
          · have := Option.some.inj hbb; omega
          · have := Option.some.inj hbb; omega
    have hi : ∀ m, t + 1 + m ≤ hs → bestF ρ hs (nI p) (nI q) (t + 1 + m) = some t := by
      intro m
      induction m with
      | zero =>
        intro hm
        show (match bestF ρ hs (nI p) (nI q) t with
          | none => if allF ρ * nI p ≤ dropsF ρ t * nI q then some t else none
          | some b => if allF ρ * nI p ≤ dropsF ρ t * nI q ∧ rankN ρ hs t < rankN ρ hs b then some t else some b) = some t
        cases hf : bestF ρ hs (nI p) (nI q) t with
        | none => simp only; rw [if_pos hc]
        | some b =>
          have hbt := lo t (Nat.le_refl _) b hf
          simp only
          rw [if_pos ⟨hc, by rw [e2]; exact (e3 b (by omega)).2 (by omega)⟩]
      | succ m ih =>
        intro hm
        show (match bestF ρ hs (nI p) (nI q) (t + 1 + m) with
          | none => if allF ρ * nI p ≤ dropsF ρ (t + 1 + m) * nI q then some (t + 1 + m) else none
          | some b => if allF ρ * nI p ≤ dropsF ρ (t + 1 + m) * nI q ∧ rankN ρ hs (t + 1 + m) < rankN ρ hs b then some (t + 1 + m) else some b) = some t
        rw [ih (by omega)]
        simp only
        rw [if_neg (fun z => by have := z.2; omega)]
    have := hi (hs - (t + 1)) (by omega)
    rwa [show t + 1 + (hs - (t + 1)) = hs by omega] at this
  · rw [if_neg (fun z => hc z.2)]
    have no : ∀ j, j ≤ hs → bestF ρ hs (nI p) (nI q) j = none := by
      intro j
      induction j with
      | zero => intro _; rfl
      | succ j ih =>
        intro hj
        show (match bestF ρ hs (nI p) (nI q) j with
          | none => if allF ρ * nI p ≤ dropsF ρ j * nI q then some j else none
          | some b => if allF ρ * nI p ≤ dropsF ρ j * nI q ∧ rankN ρ hs j < rankN ρ hs b then some j else some b) = none
        rw [ih (by omega)]
        simp only
        rw [if_neg (fun z => hc ((c_iff t ht).mpr (Nat.le_trans ((c_iff j (by omega)).mp z) (less j (by omega)))))]
    exact no hs (Nat.le_refl _)
/-- sets of heirs -/
def popN (s : Nat) : Nat := sumN (fun k => s / 2 ^ k % 2) 8
theorem bitF_nat {s h : Nat} (hs : s < 2 ^ 31) (hh : h < 8) : bitF (nI s) h = nI (s / 2 ^ h % 2) := by
  unfold bitF
  have e0 : ∀ h, h < 8 → (nI h &&& 31) = nI h ∧ ((nI h).toBitVec.smod 32).toNat = h := by decide +kernel
  rw [(e0 h hh).1, pk_shrN hs (nI h) h (e0 h hh).2, show (1 : Int32) = nI 1 from rfl, pk_andN (k := 1) (by have := Nat.div_le_self s (2 ^ h); omega) rfl]
theorem bitF_01 {s h : Nat} (hs : s < 2 ^ 31) (hh : h < 8) : bitF (nI s) h = 0 ∨ bitF (nI s) h = 1 := by
  rw [bitF_nat hs hh]
  rcases Nat.mod_two_eq_zero_or_one (s / 2 ^ h) with e | e <;> rw [e]
  · exact Or.inl rfl
  · exact Or.inr rfl
theorem shl1 : ∀ h, h ≤ 8 → (1 : Int32) <<< (nI h &&& 31) = nI (2 ^ h) := by decide +kernel
theorem pow8 {h : Nat} (hh : h ≤ 8) : 2 ^ h ≤ 256 := Nat.pow_le_pow_right (n := 2) (by omega) hh
def lgF (ρ : Nat → Int32) : Nat → Option Nat
  | 0 => none
  | s + 1 => match lgF ρ s with
    | none => if winsF ρ (nI s) = 0 then none else some s
    | some b => if winsF ρ (nI s) = 0 then some b else if popN s < popN b then some s else some b
def leagueQ (π : qPl) (ρ : Nat → Int32) : Int32 := o2n (lgF ρ (2 ^ π.1 1))
def lessB (s : Nat) (k : Nat) : Int32 := nI s &&& (((1 : Int32) <<< (nI k &&& 31)) ^^^ (-1))
def powP (ρ : Nat → Int32) (k s : Nat) : Bool := decide (¬ bitF (nI s) k = 0 ∧ ¬ winsF ρ (nI s) = 0 ∧ winsF ρ (lessB s k) = 0)
def powerQ (π : qPl) (ρ : Nat → Int32) (h : Int32) : Int32 := if isF (π.1 1) h = 0 then -1 else nI (cntN (powP ρ h.toNatClampNeg) (2 ^ π.1 1))
abbrev badW (π : qPl) (h n b : Int32) : Prop := isF (π.1 1) h = 0 ∨ inF 1 200 n = 0 ∨ badQ (π.1 1) b
def withoutQ (π : qPl) (ρ : Nat → Int32) (h n b : Int32) : Int32 := if badW π h n b then -1000000 else if b = -1 then allF (weeksF π (-1) ρ n.toNatClampNeg) - allF (weeksF π h ρ n.toNatClampNeg) else dropsF (weeksF π h ρ n.toNatClampNeg) b.toNatClampNeg - dropsF (weeksF π (-1) ρ n.toNatClampNeg) b.toNatClampNeg
/-! whom to ask -/
def keyN (π : qPl) (o : Nat) : Nat := 8 * π.2.1 3 o + o
def befN (π : qPl) (s κ : Nat) : Nat := sumN (fun o => if s / 2 ^ o % 2 = 1 ∧ keyN π o < κ then π.2.1 5 o else 0) (π.1 1)
def gvN (π : qPl) (n s h : Nat) : Nat := if s / 2 ^ h % 2 = 1 then min (π.2.1 5 h) (n - befN π s (keyN π h)) else 0
def costN (π : qPl) (n s κ : Nat) : Nat := sumN (fun o => if keyN π o < κ ∧ 0 < gvN π n s o then gvN π n s o * π.2.1 3 o + π.2.1 4 o else 0) (π.1 1)
def clsV (π : qPl) (n s : Nat) : Option Nat := if n ≤ befN π s 1000 then some (costN π n s 1000) else none
def refV (π : qPl) (n s : Nat) : Option Nat := if (∀ h, h < π.1 1 → s / 2 ^ h % 2 = 1 → 0 < gvN π n s h) ∧ n ≤ befN π s 1000 then some (costN π n s 1000) else none
def askG (V : Nat → Option Nat) : Nat → Option (Nat × Nat)
  | 0 => none
  | s + 1 => if s = 0 then none else match V s with
    | none => askG V s
    | some v => match askG V s with
      | none => some (s, v)
      | some (b, w) => if v < w then some (s, v) else some (b, w)
def askP (V : Nat → Option Nat) (N : Nat) : Option (Nat × Nat) → Prop
  | none => ∀ s, 0 < s → s < N → V s = none
  | some (b, v) => 0 < b ∧ b < N ∧ V b = some v ∧ ∀ s w, 0 < s → s < N → V s = some w → v ≤ w ∧ (s < b → v < w)
theorem askG_spec (V : Nat → Option Nat) : ∀ N, askP V N (askG V N)
  | 0 => fun s _ h => absurd h (Nat.not_lt_zero _)
  | s + 1 => by
    have ih := askG_spec V s
    show askP V (s + 1) (if s = 0 then none else match V s with
      | none => askG V s
      | some v => match askG V s with
        | none => some (s, v)
        | some (b, w) => if v < w then some (s, v) else some (b, w))
    by_cases h0 : s = 0
    · rw [if_pos h0]
      exact fun s' h1 h2 => absurd h2 (by omega)
    rw [if_neg h0]
    cases hv : V s with
    | none =>
      simp only
      cases ha : askG V s with
      | none =>
        rw [ha] at ih
        intro s' h1 h2
        by_cases e : s' = s
        · rw [e]; exact hv
        · exact ih s' h1 (by omega)
      | some bw =>
        obtain ⟨b, w⟩ := bw
        rw [ha] at ih
        obtain ⟨i1, i2, i3, i4⟩ := ih
        refine ⟨i1, by omega, i3, fun s' w' h1 h2 h3 => ?_⟩
        by_cases e : s' = s
        · rw [e, hv] at h3; cases h3
        · exact i4 s' w' h1 (by omega) h3
    | some v =>
      simp only
      cases ha : askG V s with
      | none =>
        rw [ha] at ih
        refine ⟨by omega, by omega, hv, fun s' w' h1 h2 h3 => ?_⟩
        by_cases e : s' = s
        · rw [e, hv] at h3
          have := Option.some.inj h3
          omega
        · have := ih s' h1 (by omega)
          rw [this] at h3; cases h3
      | some bw =>
        obtain ⟨b, w⟩ := bw
        rw [ha] at ih
        obtain ⟨i1, i2, i3, i4⟩ := ih
        simp only
        by_cases hvw : v < w
        · rw [if_pos hvw]
          refine ⟨by omega, by omega, hv, fun s' w' h1 h2 h3 => ?_⟩
          by_cases e : s' = s
          · rw [e, hv] at h3
            have := Option.some.inj h3
            omega
          · have := i4 s' w' h1 (by omega) h3
            omega
        · rw [if_neg hvw]
          refine ⟨i1, by omega, i3, fun s' w' h1 h2 h3 => ?_⟩
          by_cases e : s' = s
          · rw [e, hv] at h3
            have := Option.some.inj h3
            omega
          · exact i4 s' w' h1 (by omega) h3
theorem bit_less : ∀ b, b < 256 → ∀ h, h < 8 → b / 2 ^ h % 2 = 1 → 2 ^ h ≤ b ∧ ∀ o, o < 8 → (b - 2 ^ h) / 2 ^ o % 2 = if o = h then 0 else b / 2 ^ o % 2 := by decide +kernel
theorem sumN_le {f h : Nat → Nat} : ∀ n, (∀ k, k < n → f k ≤ h k) → sumN f n ≤ sumN h n
  | 0, _ => Nat.le_refl _
  | n + 1, e => by
    show sumN f n + f n ≤ sumN h n + h n
    have := sumN_le n (fun k hk => e k (by omega))
    have := e n (by omega)
    omega
theorem key_inj {π : qPl} {o h : Nat} (ho : o < 8) (hh : h < 8) (e : keyN π o = keyN π h) : o = h := by
  unfold keyN at e
  omega
/-- one who gives none may be left out -/
theorem less_one {π : qPl} {n s h : Nat} (h8 : π.1 1 ≤ 8) (hs : s < 256) (hh : h < π.1 1) (hb : s / 2 ^ h % 2 = 1) (hg : gvN π n s h = 0) : (∀ o, o < π.1 1 → gvN π n (s - 2 ^ h) o = gvN π n s o) ∧ (n ≤ befN π s 1000 → n ≤ befN π (s - 2 ^ h) 1000) := by
  obtain ⟨b1, b2⟩ := bit_less s hs h (by omega) hb
  have hg2 : π.2.1 5 h = 0 ∨ n ≤ befN π s (keyN π h) := by
    unfold gvN at hg
    rw [if_pos hb] at hg
    omega
  -- what is ahead of κ, without h
  have e1 : ∀ κ, befN π s κ = befN π (s - 2 ^ h) κ + (if keyN π h < κ then π.2.1 5 h else 0) := by
    intro κ
    unfold befN
    have q := sumN_one (f := fun o => if s / 2 ^ o % 2 = 1 ∧ keyN π o < κ then π.2.1 5 o else 0) (h := fun o => if (s - 2 ^ h) / 2 ^ o % 2 = 1 ∧ keyN π o < κ then π.2.1 5 o else 0) (c := h) (π.1 1) hh (fun k hk hkc => by
      show (if _ then _ else _) = (if _ then _ else _)
      rw [b2 k (by omega), if_neg hkc])
    rw [b2 h (by omega), if_pos rfl, hb] at q
    rw [if_neg (c := (0 = 1 ∧ keyN π h < κ)) (fun z => absurd z.1 (by decide))] at q
    by_cases c : keyN π h < κ
    · rw [if_pos ⟨rfl, c⟩] at q
      rw [if_pos c]
      omega
    · rw [if_neg (fun z => c z.2)] at q
      rw [if_neg c]
      omega
  have mono : ∀ t κ κ', κ ≤ κ' → befN π t κ ≤ befN π t κ' := fun t κ κ' hk => by
    unfold befN
    refine sumN_le _ (fun o ho => ?_)
    by_cases c : t / 2 ^ o % 2 = 1 ∧ keyN π o < κ
    · rw [if_pos c, if_pos ⟨c.1, by omega⟩]
      exact Nat.le_refl _
    · rw [if_neg c]
      exact Nat.zero_le _
  have e2 : befN π (s - 2 ^ h) (keyN π h) = befN π s (keyN π h) := by
    have := e1 (keyN π h)
    rw [if_neg (by omega)] at this
    omega
  refine ⟨fun o ho => ?_, fun hn => ?_⟩
  · unfold gvN
    by_cases e : o = h
    · rw [e, b2 h (by omega), if_pos rfl, if_neg (by decide)]
      unfold gvN at hg
      exact hg.symm
    · rw [b2 o (by omega), if_neg e]
      by_cases c : s / 2 ^ o % 2 = 1
      · rw [if_pos c, if_pos c]
        have q := e1 (keyN π o)
        by_cases c2 : keyN π h < keyN π o
        · rw [if_pos c2] at q
          rcases hg2 with z | z
          · rw [show befN π s (keyN π o) = befN π (s - 2 ^ h) (keyN π o) by omega]
          · have m1 := mono s _ _ (Nat.le_of_lt c2)
            have m2 := mono (s - 2 ^ h) _ _ (Nat.le_of_lt c2)
            rw [show n - befN π (s - 2 ^ h) (keyN π o) = 0 by omega, show n - befN π s (keyN π o) = 0 by omega]
        · rw [if_neg c2] at q
          rw [show befN π s (keyN π o) = befN π (s - 2 ^ h) (keyN π o) by omega]
      · rw [if_neg c, if_neg c]
  · have q := e1 1000
    rcases hg2 with z | z
    · split at q <;> omega
    · by_cases c : keyN π h ≤ 1000
      · have m2 := mono (s - 2 ^ h) _ _ c
        omega
      · rw [if_neg (by omega)] at q
        omega
theorem sumN_pos {f : Nat → Nat} : ∀ n, 0 < sumN f n → ∃ k, k < n ∧ 0 < f k
  | 0, h => absurd h (Nat.lt_irrefl _)
  | n + 1, h => by
    have h' : 0 < sumN f n + f n := h
    by_cases e : 0 < f n
    · exact ⟨n, by omega, e⟩
    · obtain ⟨k, hk, hk2⟩ := sumN_pos (f := f) n (by omega)
      exact ⟨k, by omega, hk2⟩
theorem ask_same {π : qPl} {n N : Nat} (h8 : π.1 1 ≤ 8) (hn : 0 < n) (hN : N ≤ 256) : askG (refV π n) N = askG (clsV π n) N := by
  have s1 := askG_spec (refV π n) N
  have s2 := askG_spec (clsV π n) N
  have r2c : ∀ s v, refV π n s = some v → clsV π n s = some v := fun s v h => by
    unfold refV at h
    unfold clsV
    split at h
    · rename_i c
      rw [if_pos c.2]
      exact h
    · cases h
  -- the least is full
  have full : ∀ b v, 0 < b → b < N → clsV π n b = some v → (∀ s w, 0 < s → s < N → clsV π n s = some w → v ≤ w ∧ (s < b → v < w)) → refV π n b = some v := fun b v h1 h2 h3 h4 => by
    have h3' := h3
    unfold clsV at h3
    split at h3
    · rename_i c
      have c1 : ∀ h, h < π.1 1 → b / 2 ^ h % 2 = 1 → 0 < gvN π n b h := fun h hh hb => Nat.pos_of_ne_zero (fun z => by
        obtain ⟨l1, l2⟩ := less_one h8 (by omega) hh hb z
        obtain ⟨b1, b2⟩ := bit_less b (by omega) h (by omega) hb
        have l3 := l2 c
        have l4 : 0 < b - 2 ^ h := Nat.pos_of_ne_zero (fun z0 => by
          obtain ⟨k, hk, hk2⟩ := sumN_pos _ (Nat.lt_of_lt_of_le hn l3)
          rw [z0] at hk2
          rw [Nat.zero_div, if_neg (fun z => absurd z.1 (by decide))] at hk2
          exact absurd hk2 (Nat.lt_irrefl _))
        have l5 : clsV π n (b - 2 ^ h) = some v := by
          rw [← h3]
          unfold clsV
          rw [if_pos l3]
          congr 1
          unfold costN
          exact sumN_congr _ (fun k hk => by rw [l1 k hk])
        have hp : 0 < 2 ^ h := Nat.two_pow_pos h
        have := (h4 _ _ l4 (by omega) l5).2 (by omega)
        omega)
      unfold refV
      rw [if_pos ⟨c1, c⟩]
      exact h3
    · cases h3
  cases ha : askG (clsV π n) N with
  | none =>
    rw [ha] at s2
    cases hb : askG (refV π n) N with
    | none => rfl
    | some bv =>
      obtain ⟨b, v⟩ := bv
      rw [hb] at s1
      obtain ⟨i1, i2, i3, -⟩ := s1
      have := s2 b i1 i2
      rw [r2c b v i3] at this
      cases this
  | some cw =>
    obtain ⟨c, w⟩ := cw
    rw [ha] at s2
    obtain ⟨j1, j2, j3, j4⟩ := s2
    have hf := full c w j1 j2 j3 j4
    cases hb : askG (refV π n) N with
    | none =>
      rw [hb] at s1
      have := s1 c j1 j2
      rw [hf] at this
      cases this
    | some bv =>
      obtain ⟨b, v⟩ := bv
      rw [hb] at s1
      obtain ⟨i1, i2, i3, i4⟩ := s1
      have a1 := i4 c w j1 j2 hf
      have a2 := j4 b v i1 i2 (r2c b v i3)
      have e1 : v = w := by omega
      have e2 : b = c := by
        rcases Nat.lt_trichotomy b c with h | h | h
        · have := a2.2 h; omega
        · exact h
        · have := a1.2 h; omega
      rw [e1, e2]
abbrev badA (π : qPl) (n : Int32) : Prop := inF 1 999 n = 0
def askedQ (π : qPl) (n w : Int32) : Int32 := if inF 1 999 n = 0 ∨ inF 0 1 w = 0 then -1 else match askG (refV π n.toNatClampNeg) (2 ^ π.1 1) with
  | none => -2
  | some (b, v) => if w = 0 then nI v else nI b
def givesQ (π : qPl) (n h : Int32) : Int32 := if inF 1 999 n = 0 ∨ isF (π.1 1) h = 0 then -1 else match askG (refV π n.toNatClampNeg) (2 ^ π.1 1) with
  | none => -2
  | some (b, _) => nI (gvN π n.toNatClampNeg b h.toNatClampNeg)
