/-! the reference's tellLaw -/
def SLw (S ck bk k : Nat) : Nat → Nat → Prop := fun b j => (b = 280 ∧ (j = 11 ∨ j = 12 ∨ j = 13 ∨ j = 14 ∨ j = 44 ∨ j = 50 ∨ j = 54)) ∨ b = 318 ∨ ((b = 316 ∨ b = 317) ∧ 420 * S + ck ≤ j ∧ j < 420 * S + 420) ∨ (311 ≤ b ∧ b ≤ 315 ∧ 130 * S + bk ≤ j ∧ j < 130 * S + 130) ∨ ((b = 309 ∨ b = 310) ∧ j = 17 * S + k)
def SBa (bn cd : Nat) : Nat → Nat → Prop := fun b j => b = 280 ∨ b = 318 ∨ ((b = 313 ∨ b = 314 ∨ b = 315) ∧ j = bn) ∨ ((b = 316 ∨ b = 317) ∧ cd ≤ j)
def SBb (bn cd : Nat) : Nat → Nat → Prop := fun b j => b = 280 ∨ b = 318 ∨ ((b = 314 ∨ b = 315) ∧ j = bn) ∨ ((b = 316 ∨ b = 317) ∧ cd ≤ j)
def laW (T : qTk) (a : Nat) : Except qE (Nat × List qBr × List Int32) := bQ (laQ T a) (fun v => bQ (acQ T 59 v.1) (fun a5 => .ok (a5, v.2)))
abbrev okLw2 (S : Nat) (T : qTk) (s : Nat × Nat) (N : qNm) (nc ck bk k : Nat) (v : Nat × List qBr × List Int32) (M' : qM) : Prop := qYK M' S T v.1 s N nc ∧ M'.1 280 12 = 0 ∧ M'.1 280 50 = nI (420 * S + ck + lwT v.2.1 v.2.2) ∧ M'.1 280 44 = nI (130 * S + bk + v.2.1.length + 1) ∧ (M'.1 309 (17 * S + k) = nI (130 * S + bk) ∧ M'.1 310 (17 * S + k) = nI (130 * S + bk + v.2.1.length + 1)) ∧ qLwM M' (130 * S + bk) (420 * S + ck) v.2.1 v.2.2
set_option maxHeartbeats 1000000 in
theorem c_X12_tellLawF (g : qG) {M : qM} {S : Nat} {T : qTk} {e : qE} (h : qYF M S T e) {ck bk : Nat} (hb : M.1 280 44 = nI (130 * S + bk)) (hbk : bk ≤ 120) (k : Nat) : qV g 5 kX12_tellLaw [.ref 280, .int (nI k)] M (fun M' => qYF M' S T e ∧ qFr (SLw S ck bk k) M M') := by
  have hn := h.n
  have hS2 := h.1.2.2.1
  have hM := h.1.1
  generalize hb0 : 130 * S + bk = b0 at *
  refine qV.of (j := 2) (pn_RX12) rfl ?_
  show qT g kX12_tellLaw (qR 5 0 0) (qZV g (fun M' => qYF M' S T e ∧ qFr (SLw S ck bk k) M M')) 0 [some (.ref 280), some (.int (nI k)), none, none] [] 333 M (0, 0)
  refine qi_aload_n (i := 0) (x := 280) dX12_tellLaw_0 rfl rfl ?_
  refine qi_iconst (v := 5) dX12_tellLaw_1 rfl ?_
  refine qi_callVV (K' := kX12_must) (As := [.int 5]) mlX12_295 okX12_must dX12_tellLaw_2 (c_X12_mustF g h 5) rfl (by decide) rfl (by decide) rfl rfl (Nat.le_of_ble_eq_true rfl) ⟨(Nat.le_of_ble_eq_true rfl), (Nat.le_of_ble_eq_true rfl)⟩ ⟨Nat.le_refl _, Nat.le_refl _⟩ (fun M1 e1 => ?_)
  rw [e1]
  refine qi_aload_n (i := 0) (x := 280) dX12_tellLaw_5 rfl rfl ?_
  refine qi_getI (x := nI b0) flX12_257 dX12_tellLaw_6 rfl (by decide) hb ?_
  refine qi_istore_n (i := 2) (L2 := [some (.ref 280), some (.int (nI k)), some (.int (nI b0)), none]) dX12_tellLaw_9 rfl (Nat.le_of_ble_eq_true rfl) rfl ?_
  refine qi_iconst (v := 0) dX12_tellLaw_10 rfl ?_
  refine qi_istore_n (i := 3) (L2 := [some (.ref 280), some (.int (nI k)), some (.int (nI b0)), some (.int 0)]) dX12_tellLaw_11 rfl (Nat.le_of_ble_eq_true rfl) rfl ?_
  refine qi_aload_n (i := 0) (x := 280) dX12_tellLaw_12 rfl rfl ?_
  refine qi_getI (x := nI e.1) flX12_218 dX12_tellLaw_13 rfl (by decide) h.2.2.1 ?_
  refine qi_if_ne (tgt := 129) dX12_tellLaw_16 (by decide) (fun _hc => ?_) (fun _h => absurd ((nI_eq (a := e.1) (b := 0) (by omega) (by omega)).mp _h) (by omega))
  refine qi_aload_n (i := 0) (x := 280) dX12_tellLaw_129 rfl rfl ?_
  refine qi_getR (x := 311) flX12_109 dX12_tellLaw_130 rfl (by decide) (hM 280 45 311 rfl) ?_
  refine qi_aload_n (i := 0) (x := 280) dX12_tellLaw_133 rfl rfl ?_
  refine qi_getI (x := nI b0) flX12_257 dX12_tellLaw_134 rfl (by decide) hb ?_
  refine qi_iconst (v := 0) dX12_tellLaw_137 rfl ?_
  have hbool : (1 : Nat) = 1 := rfl
  refine qi_zastN (j := b0) dX12_tellLaw_138 rfl (by decide) rfl (by omega) (by decide) (by rfl) ?_
  refine qi_aload_n (i := 0) (x := 280) dX12_tellLaw_139 rfl rfl ?_
  have Fa : qFr (fun b j => b = 311 ∧ j = b0) M (wI M 311 b0 0) := qFr.rf.wI ⟨rfl, rfl⟩
  have hA := h.fr Fa (fun b j z => by omega)
  have hbA : (wI M 311 b0 0).1 280 44 = nI b0 := (wI_a (by decide)).trans hb
  refine qi_callVV (K' := kX12_term) (As := []) mlX12_318 okX12_term dX12_tellLaw_140 (c_X12_termF g hA hbA (by omega)) rfl (by decide) rfl (by decide) rfl rfl (Nat.le_of_ble_eq_true rfl) ⟨(Nat.le_of_ble_eq_true rfl), (Nat.le_of_ble_eq_true rfl)⟩ ⟨Nat.le_refl _, Nat.le_refl _⟩ (fun M2 ⟨k2, b2, f2⟩ => ?_)
  refine qi_aload_n (i := 0) (x := 280) dX12_tellLaw_143 rfl rfl ?_
  refine qi_iconst (v := 4) dX12_tellLaw_144 rfl ?_
  refine qi_callVV (K' := kX12_must) (As := [.int 4]) mlX12_295 okX12_must dX12_tellLaw_145 (c_X12_mustF g k2 4) rfl (by decide) rfl (by decide) rfl rfl (Nat.le_of_ble_eq_true rfl) ⟨(Nat.le_of_ble_eq_true rfl), (Nat.le_of_ble_eq_true rfl)⟩ ⟨Nat.le_refl _, Nat.le_refl _⟩ (fun M3 e3 => ?_)
  rw [e3]
  refine qi_aload_n (i := 0) (x := 280) dX12_tellLaw_148 rfl rfl ?_
  refine qi_getI (x := nI e.1) flX12_218 dX12_tellLaw_149 rfl (by decide) k2.2.2.1 ?_
  refine qi_if_le (tgt := 156) dX12_tellLaw_152 (by decide) (fun _h => absurd ((nI_leI (a := e.1) (b := 0) (by omega) (by omega)).mp _h) (by omega)) (fun _hc => ?_)
  exact qi_retV rfl dX12_tellLaw_155 (⟨k2, (Fa.mono (fun b j z => by unfold SLw; omega)).tr (f2.mono (fun b j z => by unfold STf at z; unfold SLw; omega))⟩)
set_option maxHeartbeats 2000000 in
theorem c_X12_tellLaw (g : qG) {T : qTk} (hT : okTk T) {M : qM} {S a0 : Nat} {s : Nat × Nat} {N : qNm} {nc ck bk k : Nat} (h0 : qYK M S T a0 s N nc) (ho0 : M.1 280 12 = 0) (hc0 : M.1 280 50 = nI (420 * S + ck)) (hck : ck ≤ a0) (hb : M.1 280 44 = nI (130 * S + bk)) (hbk : bk ≤ 100) (hk : k ≤ 16) : qV g 5 kX12_tellLaw [.ref 280, .int (nI k)] M (fun M' => qPy S T (laW T a0) (okLw2 S T s N nc ck bk k) M' ∧ qFr (SLw S ck bk k) M M') := by
  generalize hR : laW T a0 = res
  have hS2 := h0.1.2.2.1
  have hM := h0.1.1
  obtain ⟨b0, hb0⟩ : ∃ x, x = 130 * S + bk := ⟨_, rfl⟩
  obtain ⟨o0, ho0'⟩ : ∃ x, x = 420 * S + ck := ⟨_, rfl⟩
  have MT : ∀ {M1 M2 : qM}, qFr SYt M1 M2 → qFr (SLw S ck bk k) M1 M2 := fun h => h.mono (fun b j z => by unfold SYt at z; unfold SLw; omega)
  have ME : ∀ {M1 M2 : qM} {cd : Nat}, o0 ≤ cd → qFr (SE S cd) M1 M2 → qFr (SLw S ck bk k) M1 M2 := fun hc h => h.mono (fun b j z => by unfold SE at z; unfold SLw; omega)
  have MM : ∀ {M1 M2 : qM} {cd bn : Nat}, o0 ≤ cd → b0 ≤ bn → bn < 130 * S + 130 → qFr (STm S cd bn) M1 M2 → qFr (SLw S ck bk k) M1 M2 := fun hc h1 h2 h => h.mono (fun b j z => by unfold STm SE at z; unfold SLw; omega)
  have MF : ∀ {M1 M2 : qM} {bn : Nat}, b0 ≤ bn → bn < 130 * S + 130 → qFr (STf bn) M1 M2 → qFr (SLw S ck bk k) M1 M2 := fun h1 h2 h => h.mono (fun b j z => by unfold STf at z; unfold SLw; omega)
  have L129 : ∀ e M1 bn i, res = .error e → qYF M1 S T e → M1.1 280 44 = nI bn → b0 ≤ bn → bn < 130 * S + 130 → qFr (SLw S ck bk k) M M1 → qT g kX12_tellLaw (qR 5 0 0) (qZV g (fun M' => qPy S T res (okLw2 S T s N nc ck bk k) M' ∧ qFr (SLw S ck bk k) M M')) 129 [some (.ref 280), some (.int (nI k)), some (.int (nI b0)), some (.int (nI i))] [] 333 M1 (0, 0) := by
    intro e M1 bn i he hF hb1 h1 h2 ff
    have hn := hF.n
    have hM1 := hF.1.1
    refine qi_aload_n (i := 0) (x := 280) dX12_tellLaw_129 rfl rfl ?_
    refine qi_getR (x := 311) flX12_109 dX12_tellLaw_130 rfl (by decide) (hM1 280 45 311 rfl) ?_
    refine qi_aload_n (i := 0) (x := 280) dX12_tellLaw_133 rfl rfl ?_
    refine qi_getI (x := nI bn) flX12_257 dX12_tellLaw_134 rfl (by decide) hb1 ?_
    refine qi_iconst (v := 0) dX12_tellLaw_137 rfl ?_
    refine qi_zastN (j := bn) dX12_tellLaw_138 rfl (by decide) rfl (by omega) (by decide) (by rfl) ?_
    refine qi_aload_n (i := 0) (x := 280) dX12_tellLaw_139 rfl rfl ?_
    have Fa : qFr (fun b j => b = 311 ∧ j = bn) M1 (wI M1 311 bn 0) := qFr.rf.wI ⟨rfl, rfl⟩
    have hA := hF.fr Fa (fun b j z => by omega)
    have hbA : (wI M1 311 bn 0).1 280 44 = nI bn := (wI_a (by decide)).trans hb1
    refine qi_callVV (K' := kX12_term) (As := []) mlX12_318 okX12_term dX12_tellLaw_140 (c_X12_termF g hA hbA (by omega)) rfl (by decide) rfl (by decide) rfl rfl (Nat.le_of_ble_eq_true rfl) ⟨(Nat.le_of_ble_eq_true rfl), (Nat.le_of_ble_eq_true rfl)⟩ ⟨Nat.le_refl _, Nat.le_refl _⟩ (fun M2 ⟨k2, b2, f2⟩ => ?_)
    refine qi_aload_n (i := 0) (x := 280) dX12_tellLaw_143 rfl rfl ?_
    refine qi_iconst (v := 4) dX12_tellLaw_144 rfl ?_
    refine qi_callVV (K' := kX12_must) (As := [.int 4]) mlX12_295 okX12_must dX12_tellLaw_145 (c_X12_mustF g k2 4) rfl (by decide) rfl (by decide) rfl rfl (Nat.le_of_ble_eq_true rfl) ⟨(Nat.le_of_ble_eq_true rfl), (Nat.le_of_ble_eq_true rfl)⟩ ⟨Nat.le_refl _, Nat.le_refl _⟩ (fun M3 e3 => ?_)
    rw [e3]
    refine qi_aload_n (i := 0) (x := 280) dX12_tellLaw_148 rfl rfl ?_
    refine qi_getI (x := nI e.1) flX12_218 dX12_tellLaw_149 rfl (by decide) k2.2.2.1 ?_
    refine qi_if_le (tgt := 156) dX12_tellLaw_152 (by decide) (fun _h => absurd ((nI_leI (a := e.1) (b := 0) (by omega) (by omega)).mp _h) (by omega)) (fun _hc => ?_)
    exact qi_retV rfl dX12_tellLaw_155 (⟨qPy_ie he k2, (ff.tr (Fa.mono (fun b j z => by unfold SLw; omega))).tr (MF h1 h2 f2)⟩)
  have L12 : ∀ e M1 bn i, res = .error e → qYF M1 S T e → M1.1 280 44 = nI bn → b0 ≤ bn → bn < 130 * S + 130 → qFr (SLw S ck bk k) M M1 → qT g kX12_tellLaw (qR 5 0 0) (qZV g (fun M' => qPy S T res (okLw2 S T s N nc ck bk k) M' ∧ qFr (SLw S ck bk k) M M')) 12 [some (.ref 280), some (.int (nI k)), some (.int (nI b0)), some (.int (nI i))] [] 333 M1 (0, 0) := by
    intro e M1 bn i he hF hb1 h1 h2 ff
    have hn := hF.n
    refine qi_aload_n (i := 0) (x := 280) dX12_tellLaw_12 rfl rfl ?_
    refine qi_getI (x := nI e.1) flX12_218 dX12_tellLaw_13 rfl (by decide) hF.2.2.1 ?_
    refine qi_if_ne (tgt := 129) dX12_tellLaw_16 (by decide) (fun _hc => ?_) (fun _h => absurd ((nI_eq (a := e.1) (b := 0) (by omega) (by omega)).mp _h) (by omega))
    exact L129 e M1 bn i he hF hb1 h1 h2 ff
  have L120 : ∀ e M1 bn i, res = .error e → qYF M1 S T e → M1.1 280 44 = nI bn → b0 ≤ bn → bn < 130 * S + 130 → qFr (SLw S ck bk k) M M1 → qT g kX12_tellLaw (qR 5 0 0) (qZV g (fun M' => qPy S T res (okLw2 S T s N nc ck bk k) M' ∧ qFr (SLw S ck bk k) M M')) 120 [some (.ref 280), some (.int (nI k)), some (.int (nI b0)), some (.int (nI i))] [] 333 M1 (0, 0) := by
    intro e M1 bn i he hF hb1 h1 h2 ff
    refine qi_aload_n (i := 0) (x := 280) dX12_tellLaw_120 rfl rfl ?_
    refine qi_bipush (v := 30) dX12_tellLaw_121 rfl ?_
    refine qi_callVV (K' := kX12_must) (As := [.int 30]) mlX12_295 okX12_must dX12_tellLaw_123 (c_X12_mustF g hF 30) rfl (by decide) rfl (by decide) rfl rfl (Nat.le_of_ble_eq_true rfl) ⟨(Nat.le_of_ble_eq_true rfl), (Nat.le_of_ble_eq_true rfl)⟩ ⟨Nat.le_refl _, Nat.le_refl _⟩ (fun M2 e2 => ?_)
    rw [e2]
    refine qi_goto (tgt := 12) dX12_tellLaw_126 (by decide) ?_
    exact L12 e M1 bn i he hF hb1 h1 h2 ff
  have L116 : ∀ e M1 bn i, res = .error e → qYF M1 S T e → M1.1 280 44 = nI bn → b0 ≤ bn → bn + 1 < 130 * S + 130 → qFr (SLw S ck bk k) M M1 → qT g kX12_tellLaw (qR 5 0 0) (qZV g (fun M' => qPy S T res (okLw2 S T s N nc ck bk k) M' ∧ qFr (SLw S ck bk k) M M')) 116 [some (.ref 280), some (.int (nI k)), some (.int (nI b0)), some (.int (nI i))] [] 333 M1 (0, 0) := by
    intro e M1 bn i he hF hb1 h1 h2 ff
    refine qi_aload_n (i := 0) (x := 280) dX12_tellLaw_116 rfl rfl ?_
    refine qi_callVV (K' := kX12_term) (As := []) mlX12_318 okX12_term dX12_tellLaw_117 (c_X12_termF g hF hb1 (by omega)) rfl (by decide) rfl (by decide) rfl rfl (Nat.le_of_ble_eq_true rfl) ⟨(Nat.le_of_ble_eq_true rfl), (Nat.le_of_ble_eq_true rfl)⟩ ⟨Nat.le_refl _, Nat.le_refl _⟩ (fun M2 ⟨k2, b2, f2⟩ => ?_)
    exact L120 e M2 (bn + 1) i he k2 b2 (by omega) h2 (ff.tr (MF h1 (by omega) f2))
  have L110 : ∀ e M1 bn i, res = .error e → qYF M1 S T e → M1.1 280 44 = nI bn → b0 ≤ bn → bn + 1 < 130 * S + 130 → qFr (SLw S ck bk k) M M1 → qT g kX12_tellLaw (qR 5 0 0) (qZV g (fun M' => qPy S T res (okLw2 S T s N nc ck bk k) M' ∧ qFr (SLw S ck bk k) M M')) 110 [some (.ref 280), some (.int (nI k)), some (.int (nI b0)), some (.int (nI i))] [] 333 M1 (0, 0) := by
    intro e M1 bn i he hF hb1 h1 h2 ff
    refine qi_aload_n (i := 0) (x := 280) dX12_tellLaw_110 rfl rfl ?_
    refine qi_bipush (v := 29) dX12_tellLaw_111 rfl ?_
    refine qi_callVV (K' := kX12_must) (As := [.int 29]) mlX12_295 okX12_must dX12_tellLaw_113 (c_X12_mustF g hF 29) rfl (by decide) rfl (by decide) rfl rfl (Nat.le_of_ble_eq_true rfl) ⟨(Nat.le_of_ble_eq_true rfl), (Nat.le_of_ble_eq_true rfl)⟩ ⟨Nat.le_refl _, Nat.le_refl _⟩ (fun M2 e2 => ?_)
    rw [e2]
    exact L116 e M1 bn i he hF hb1 h1 h2 ff
  have L86 : ∀ e M1 bn i, res = .error e → qYF M1 S T e → M1.1 280 44 = nI bn → b0 ≤ bn → bn + 1 < 130 * S + 130 → qFr (SLw S ck bk k) M M1 → qT g kX12_tellLaw (qR 5 0 0) (qZV g (fun M' => qPy S T res (okLw2 S T s N nc ck bk k) M' ∧ qFr (SLw S ck bk k) M M')) 86 [some (.ref 280), some (.int (nI k)), some (.int (nI b0)), some (.int (nI i))] [] 333 M1 (0, 0) := by
    intro e M1 bn i he hF hb1 h1 h2 ff
    have hn := hF.n
    have hM1 := hF.1.1
    refine qi_aload_n (i := 0) (x := 280) dX12_tellLaw_86 rfl rfl ?_
    refine qi_getR (x := 313) flX12_116 dX12_tellLaw_87 rfl (by decide) (hM1 280 47 313 rfl) ?_
    refine qi_aload_n (i := 0) (x := 280) dX12_tellLaw_90 rfl rfl ?_
    refine qi_getI (x := nI bn) flX12_257 dX12_tellLaw_91 rfl (by decide) hb1 ?_
    refine qi_aload_n (i := 0) (x := 280) dX12_tellLaw_94 rfl rfl ?_
    refine qi_getI (x := M1.1 280 50) flX12_260 dX12_tellLaw_95 rfl (by decide) rfl ?_
    refine qi_iastN (j := bn) dX12_tellLaw_98 rfl (by decide) rfl (by omega) (by decide) ?_
    generalize e2 : wI M1 313 bn (M1.1 280 50) = M2
    have Fa : qFr (fun b j => b = 313 ∧ j = bn) M1 M2 := by
      rw [← e2]
      exact qFr.rf.wI ⟨rfl, rfl⟩
    have hA := hF.fr Fa (fun b j z => by omega)
    refine qi_aload_n (i := 0) (x := 280) dX12_tellLaw_99 rfl rfl ?_
    refine qi_getI (x := nI e.1) flX12_218 dX12_tellLaw_100 rfl (by decide) hA.2.2.1 ?_
    refine qi_if_ne (tgt := 110) dX12_tellLaw_103 (by decide) (fun _hc => ?_) (fun _h => absurd ((nI_eq (a := e.1) (b := 0) (by omega) (by omega)).mp _h) (by omega))
    exact L110 e M2 bn i he hA ((Fa.1 _ _ (by omega)).trans hb1) h1 h2 (ff.tr (Fa.mono (fun b j z => by unfold SLw; omega)))
  have L80 : ∀ e M1 bn i, res = .error e → qYF M1 S T e → M1.1 280 44 = nI bn → b0 ≤ bn → bn + 1 < 130 * S + 130 → qFr (SLw S ck bk k) M M1 → qT g kX12_tellLaw (qR 5 0 0) (qZV g (fun M' => qPy S T res (okLw2 S T s N nc ck bk k) M' ∧ qFr (SLw S ck bk k) M M')) 80 [some (.ref 280), some (.int (nI k)), some (.int (nI b0)), some (.int (nI i))] [] 333 M1 (0, 0) := by
    intro e M1 bn i he hF hb1 h1 h2 ff
    refine qi_aload_n (i := 0) (x := 280) dX12_tellLaw_80 rfl rfl ?_
    refine qi_bipush (v := 13) dX12_tellLaw_81 rfl ?_
    refine qi_callVV (K' := kX12_must) (As := [.int 13]) mlX12_295 okX12_must dX12_tellLaw_83 (c_X12_mustF g hF 13) rfl (by decide) rfl (by decide) rfl rfl (Nat.le_of_ble_eq_true rfl) ⟨(Nat.le_of_ble_eq_true rfl), (Nat.le_of_ble_eq_true rfl)⟩ ⟨Nat.le_refl _, Nat.le_refl _⟩ (fun M2 e2 => ?_)
    rw [e2]
    exact L86 e M1 bn i he hF hb1 h1 h2 ff
  have L53 : ∀ e M1 bn i, res = .error e → qYF M1 S T e → M1.1 280 44 = nI bn → b0 ≤ bn → bn + 1 < 130 * S + 130 → qFr (SLw S ck bk k) M M1 → qT g kX12_tellLaw (qR 5 0 0) (qZV g (fun M' => qPy S T res (okLw2 S T s N nc ck bk k) M' ∧ qFr (SLw S ck bk k) M M')) 53 [some (.ref 280), some (.int (nI k)), some (.int (nI b0)), some (.int (nI i))] [] 333 M1 (0, 0) := by
    intro e M1 bn i he hF hb1 h1 h2 ff
    have hM1 := hF.1.1
    refine qi_aload_n (i := 0) (x := 280) dX12_tellLaw_53 rfl rfl ?_
    refine qi_getR (x := 311) flX12_109 dX12_tellLaw_54 rfl (by decide) (hM1 280 45 311 rfl) ?_
    refine qi_aload_n (i := 0) (x := 280) dX12_tellLaw_57 rfl rfl ?_
    refine qi_getI (x := nI bn) flX12_257 dX12_tellLaw_58 rfl (by decide) hb1 ?_
    refine qi_iconst (v := 1) dX12_tellLaw_61 rfl ?_
    refine qi_zastN (j := bn) dX12_tellLaw_62 rfl (by decide) rfl (by omega) (by decide) (by rfl) ?_
    refine qi_aload_n (i := 0) (x := 280) dX12_tellLaw_63 rfl rfl ?_
    refine qi_getR (x := 312) flX12_113 dX12_tellLaw_64 rfl (by decide) (hM1 280 46 312 rfl) ?_
    refine qi_aload_n (i := 0) (x := 280) dX12_tellLaw_67 rfl rfl ?_
    refine qi_getI (x := nI bn) flX12_257 dX12_tellLaw_68 rfl (by decide) ((wI_a (by decide)).trans hb1) ?_
    refine qi_aload_n (i := 0) (x := 280) dX12_tellLaw_71 rfl rfl ?_
    refine qi_getI (x := (wI M1 311 bn 1).1 280 50) flX12_260 dX12_tellLaw_72 rfl (by decide) rfl ?_
    refine qi_iastN (j := bn) dX12_tellLaw_75 rfl (by decide) rfl (by omega) (by decide) ?_
    generalize e2 : wI (wI M1 311 bn 1) 312 bn ((wI M1 311 bn 1).1 280 50) = M2
    have Fa : qFr (fun b j => (b = 311 ∨ b = 312) ∧ j = bn) M1 M2 := by
      rw [← e2]
      exact (qFr.rf.wI (by omega)).wI (by omega)
    have hA := hF.fr Fa (fun b j z => by omega)
    refine qi_aload_n (i := 0) (x := 280) dX12_tellLaw_76 rfl rfl ?_
    refine qi_callVV (K' := kX12_expression) (As := []) mlX12_315 okX12_expression dX12_tellLaw_77 (c_X12_expressionF g hA) rfl (by decide) rfl (by decide) rfl rfl (Nat.le_of_ble_eq_true rfl) ⟨(Nat.le_of_ble_eq_true rfl), (Nat.le_of_ble_eq_true rfl)⟩ ⟨Nat.le_refl _, Nat.le_refl _⟩ (fun M3 ⟨k3, f3⟩ => ?_)
    exact L80 e M3 bn i he k3 ((f3.1 _ _ (by omega)).trans ((Fa.1 _ _ (by omega)).trans hb1)) h1 h2 ((ff.tr (Fa.mono (fun b j z => by unfold SLw; omega))).tr (f3.mono (fun b j z => by unfold SLw; omega)))
  have LAST : ∀ i a bs M1, bs.length = i → i ≤ 4 → qYK M1 S T a s N nc → M1.1 280 12 = 0 → M1.1 280 50 = nI (o0 + lwT bs []) → M1.1 280 44 = nI (b0 + i) → qBrs M1 b0 o0 bs → ck + lwT bs [] ≤ a → qFr (SLw S ck bk k) M M1 → bQ (exQ T 6 a) (fun r => bQ (acQ T 59 r.1) (fun a5 => .ok (a5, bs, r.2))) = res → qT g kX12_tellLaw (qR 5 0 0) (qZV g (fun M' => qPy S T res (okLw2 S T s N nc ck bk k) M' ∧ qFr (SLw S ck bk k) M M')) 129 [some (.ref 280), some (.int (nI k)), some (.int (nI b0)), some (.int (nI i))] [] 333 M1 (0, 0) := by
    intro i a bs M1 hl hi4 hK hop hc hbn hBr hb1 ff hR1
    have hM1 := hK.1.1
    refine qi_aload_n (i := 0) (x := 280) dX12_tellLaw_129 rfl rfl ?_
    refine qi_getR (x := 311) flX12_109 dX12_tellLaw_130 rfl (by decide) (hM1 280 45 311 rfl) ?_
    refine qi_aload_n (i := 0) (x := 280) dX12_tellLaw_133 rfl rfl ?_
    refine qi_getI (x := nI (b0 + i)) flX12_257 dX12_tellLaw_134 rfl (by decide) hbn ?_
    refine qi_iconst (v := 0) dX12_tellLaw_137 rfl ?_
    refine qi_zastN (j := b0 + i) dX12_tellLaw_138 rfl (by decide) rfl (by omega) (by decide) (by rfl) ?_
    refine qi_aload_n (i := 0) (x := 280) dX12_tellLaw_139 rfl rfl ?_
    have Fa : qFr (fun b j => b = 311 ∧ j = b0 + i) M1 (wI M1 311 (b0 + i) 0) := qFr.rf.wI ⟨rfl, rfl⟩
    have hA := hK.fr Fa (fun b j z => by omega)
    have hoA : (wI M1 311 (b0 + i) 0).1 280 12 = 0 := (wI_a (by decide)).trans hop
    have hcA : (wI M1 311 (b0 + i) 0).1 280 50 = nI (o0 + lwT bs []) := (wI_a (by decide)).trans hc
    have hbA : (wI M1 311 (b0 + i) 0).1 280 44 = nI (b0 + i) := (wI_a (by decide)).trans hbn
    refine qi_callVV (K' := kX12_term) (As := []) mlX12_318 okX12_term dX12_tellLaw_140 (c_X12_term g hT hA hoA (ck := ck + lwT bs []) (by omega) hcA hb1 hbA (by omega)) rfl (by decide) rfl (by decide) rfl rfl (Nat.le_of_ble_eq_true rfl) ⟨(Nat.le_of_ble_eq_true rfl), (Nat.le_of_ble_eq_true rfl)⟩ ⟨Nat.le_refl _, Nat.le_refl _⟩ (fun M2 ⟨k2, b2, f2⟩ => ?_)
    have ff2 := (ff.tr (Fa.mono (S' := SLw S ck bk k) (fun b j z => by unfold SLw; omega))).tr (MM (by omega) (by omega) (by omega) f2)
    refine qi_aload_n (i := 0) (x := 280) dX12_tellLaw_143 rfl rfl ?_
    refine qi_iconst (v := 4) dX12_tellLaw_144 rfl ?_
    cases hA2 : exQ T 6 a with
    | error e =>
      rw [bQ_e hA2] at hR1
      have kF := qPy_e hA2 k2
      have hn := kF.n
      refine qi_callVV (K' := kX12_must) (As := [.int 4]) mlX12_295 okX12_must dX12_tellLaw_145 (c_X12_mustF g kF 4) rfl (by decide) rfl (by decide) rfl rfl (Nat.le_of_ble_eq_true rfl) ⟨(Nat.le_of_ble_eq_true rfl), (Nat.le_of_ble_eq_true rfl)⟩ ⟨Nat.le_refl _, Nat.le_refl _⟩ (fun M3 e3 => ?_)
      rw [e3]
      refine qi_aload_n (i := 0) (x := 280) dX12_tellLaw_148 rfl rfl ?_
      refine qi_getI (x := nI e.1) flX12_218 dX12_tellLaw_149 rfl (by decide) kF.2.2.1 ?_
      refine qi_if_le (tgt := 156) dX12_tellLaw_152 (by decide) (fun _h => absurd ((nI_leI (a := e.1) (b := 0) (by omega) (by omega)).mp _h) (by omega)) (fun _hc => ?_)
      exact qi_retV rfl dX12_tellLaw_155 (⟨qPy_ie hR1.symm kF, ff2⟩)
    | ok v =>
      rw [bQ_o hA2] at hR1
      obtain ⟨⟨kK, o2, c2, r2⟩, h314, h315⟩ := qPy_o hA2 k2
      refine qi_callVV (K' := kX12_must) (As := [.int 4]) mlX12_295 okX12_must dX12_tellLaw_145 (c_X12_must g hT kK (k := 59) (by decide) (by decide)) rfl (by decide) rfl (by decide) rfl rfl (Nat.le_of_ble_eq_true rfl) ⟨(Nat.le_of_ble_eq_true rfl), (Nat.le_of_ble_eq_true rfl)⟩ ⟨Nat.le_refl _, Nat.le_refl _⟩ (fun M3 ⟨k3, f3⟩ => ?_)
      have ff3 := ff2.tr (MT f3)
      cases hB : acQ T 59 v.1 with
      | error e =>
        rw [bQ_e hB] at hR1
        have kF := qPy_e hB k3
        have hn := kF.n
        refine qi_aload_n (i := 0) (x := 280) dX12_tellLaw_148 rfl rfl ?_
        refine qi_getI (x := nI e.1) flX12_218 dX12_tellLaw_149 rfl (by decide) kF.2.2.1 ?_
        refine qi_if_le (tgt := 156) dX12_tellLaw_152 (by decide) (fun _h => absurd ((nI_leI (a := e.1) (b := 0) (by omega) (by omega)).mp _h) (by omega)) (fun _hc => ?_)
        exact qi_retV rfl dX12_tellLaw_155 (⟨qPy_ie hR1.symm kF, ff3⟩)
      | ok a5 =>
        rw [bQ_o hB] at hR1
        have k4 := qPy_o hB k3
        have hz := k4.2.1.2.2.2
        have hsd := k4.1.2.2.2
        have hM3 := k4.1.1
        have hb3 : M3.1 280 44 = nI (b0 + i + 1) := (f3.1 _ _ (by unfold SYt; omega)).trans b2
        refine qi_aload_n (i := 0) (x := 280) dX12_tellLaw_148 rfl rfl ?_
        refine qi_getI (x := nI 0) flX12_218 dX12_tellLaw_149 rfl (by decide) hz ?_
        refine qi_if_le (tgt := 156) dX12_tellLaw_152 (by decide) (fun _hc => ?_) (fun _h => absurd ((nI_leI (a := 0) (b := 0) (by omega) (by omega)).mpr (by omega)) _h)
        refine qi_aload_n (i := 0) (x := 280) dX12_tellLaw_156 rfl rfl ?_
        refine qi_getR (x := 309) flX12_103 dX12_tellLaw_157 rfl (by decide) (hM3 280 42 309 rfl) ?_
        refine qi_bipush (v := 17) dX12_tellLaw_160 rfl ?_
        refine qi_aload_n (i := 0) (x := 280) dX12_tellLaw_162 rfl rfl ?_
        refine qi_getI (x := nI S) flX12_251 dX12_tellLaw_163 rfl (by decide) hsd ?_
        refine qi_imul dX12_tellLaw_166 ?_
        refine qe_top (y := nI (17 * S)) (pk_mul 17 S) ?_
        refine qi_iload_n (i := 1) (x := nI k) dX12_tellLaw_167 rfl rfl ?_
        refine qi_iadd dX12_tellLaw_168 ?_
        refine qe_top (y := nI (17 * S + k)) (nI_add _ _) ?_
        refine qi_iload_n (i := 2) (x := nI b0) dX12_tellLaw_169 rfl rfl ?_
        refine qi_iastN (j := 17 * S + k) dX12_tellLaw_170 rfl (by decide) rfl (by omega) (by decide) ?_
        refine qi_aload_n (i := 0) (x := 280) dX12_tellLaw_171 rfl rfl ?_
        refine qi_getR (x := 310) flX12_106 dX12_tellLaw_172 rfl (by decide) (hM3 280 43 310 rfl) ?_
        refine qi_bipush (v := 17) dX12_tellLaw_175 rfl ?_
        refine qi_aload_n (i := 0) (x := 280) dX12_tellLaw_177 rfl rfl ?_
        refine qi_getI (x := nI S) flX12_251 dX12_tellLaw_178 rfl (by decide) ((wI_a (by decide)).trans hsd) ?_
        refine qi_imul dX12_tellLaw_181 ?_
        refine qe_top (y := nI (17 * S)) (pk_mul 17 S) ?_
        refine qi_iload_n (i := 1) (x := nI k) dX12_tellLaw_182 rfl rfl ?_
        refine qi_iadd dX12_tellLaw_183 ?_
        refine qe_top (y := nI (17 * S + k)) (nI_add _ _) ?_
        refine qi_aload_n (i := 0) (x := 280) dX12_tellLaw_184 rfl rfl ?_
        refine qi_getI (x := nI (b0 + i + 1)) flX12_257 dX12_tellLaw_185 rfl (by decide) ((wI_a (by decide)).trans hb3) ?_
        refine qi_iastN (j := 17 * S + k) dX12_tellLaw_188 rfl (by decide) rfl (by omega) (by decide) ?_
        generalize e4 : wI (wI M3 309 (17 * S + k) (nI b0)) 310 (17 * S + k) (nI (b0 + i + 1)) = M4
        have F4 : qFr (fun b j => (b = 309 ∨ b = 310) ∧ j = 17 * S + k) M3 M4 := by
          rw [← e4]
          exact (qFr.rf.wI (by omega)).wI (by omega)
        have Fr4 : qFr (fun b j => (b = 280 ∧ j ≠ 12 ∧ j ≠ 50 ∧ j ≠ 44) ∨ b = 309 ∨ b = 310) M2 M4 := (f3.mono (fun b j z => by unfold SYt at z; omega)).tr (F4.mono (fun b j z => by omega))
        have lt2 := lwT_last bs v.2
        refine qi_retV rfl dX12_tellLaw_189 (⟨qPy_io hR1.symm ⟨k4.fr F4 (fun b j z => by omega), (Fr4.1 _ _ (by omega)).trans o2, ?_, ?_, ⟨?_, ?_⟩, ?_⟩, ff3.tr (F4.mono (fun b j z => by unfold SLw; omega))⟩)
        · rw [Fr4.1 _ _ (by omega), c2]
          congr 1
          show _ = 420 * S + ck + lwT bs v.2
          omega
        · rw [F4.1 _ _ (by omega), hb3]
          congr 1
          show _ = 130 * S + bk + bs.length + 1
          omega
        · rw [← e4, wI_a (by decide), wI_s, hb0]
        · rw [← e4, wI_s]
          congr 1
          show _ = 130 * S + bk + bs.length + 1
          omega
        · rw [← hb0, ← ho0']
          refine qBrs_last bs b0 o0 ?_ ?_
          · refine qBrs.fr (F4.mono (S' := fun b _ => b < 311) (fun b j z => by omega)) bs b0 o0 ?_ (fun c i c1 c2 _ => by omega) (fun j _ => by omega)
            refine qBrs.fr (f3.mono (S' := fun b _ => b < 311) (fun b j z => by unfold SYt at z; omega)) bs b0 o0 ?_ (fun c i c1 c2 _ => by omega) (fun j _ => by omega)
            refine qBrs.fr f2 bs b0 o0 ?_ (fun c i2 c1 c2 hi2 => by unfold STm SE; omega) (fun j hj => by unfold STm SE; omega)
            exact qBrs.fr Fa bs b0 o0 hBr (fun c i2 c1 c2 hi2 => by omega) (fun j _ => by omega)
          · rw [hl]
            refine ⟨⟨?_, ?_, ?_⟩, cellR_fr r2 Fr4 (fun j _ => by omega)⟩
            · rw [Fr4.1 _ _ (by omega), f2.1 _ _ (by unfold STm SE; omega), wI_s]
            · rw [Fr4.1 _ _ (by omega), h314]
            · rw [Fr4.1 _ _ (by omega), h315]
  have K : ∀ n i a bs M1, i + n = 4 → bs.length = i → qYK M1 S T a s N nc → M1.1 280 12 = 0 → M1.1 280 50 = nI (o0 + lwT bs []) → M1.1 280 44 = nI (b0 + i) → qBrs M1 b0 o0 bs → ck + lwT bs [] ≤ a → qFr (SLw S ck bk k) M M1 → bQ (ifQ T n a bs) (fun v => bQ (acQ T 59 v.1) (fun a5 => .ok (a5, v.2))) = res → qT g kX12_tellLaw (qR 5 0 0) (qZV g (fun M' => qPy S T res (okLw2 S T s N nc ck bk k) M' ∧ qFr (SLw S ck bk k) M M')) 12 [some (.ref 280), some (.int (nI k)), some (.int (nI b0)), some (.int (nI i))] [] 333 M1 (0, 0) := by
    intro n
    induction n with
    | zero =>
      intro i a bs M1 ei hl hK hop hc hbn hBr hb1 ff hR1
      have hz := hK.2.1.2.2.2
      refine qi_aload_n (i := 0) (x := 280) dX12_tellLaw_12 rfl rfl ?_
      refine qi_getI (x := nI 0) flX12_218 dX12_tellLaw_13 rfl (by decide) hz ?_
      refine qi_if_ne (tgt := 129) dX12_tellLaw_16 (by decide) (fun _h => absurd ((nI_eq (a := 0) (b := 0) (by omega) (by omega)).mpr (by omega)) _h) (fun _hc => ?_)
      refine qi_aload_n (i := 0) (x := 280) dX12_tellLaw_19 rfl rfl ?_
      refine qi_bipush (v := 28) dX12_tellLaw_20 rfl ?_
      refine qi_callPVI (v := (if kAt T a = 136 then 1 else 0)) (K' := kX12_is) (As := [.int 28]) mlX12_236 okX12_is dX12_tellLaw_22 (c_X12_is g hT hK (k := 136) (by decide)) rfl (by decide) rfl (by decide) rfl rfl (Nat.le_of_ble_eq_true rfl) ⟨(Nat.le_of_ble_eq_true rfl), (Nat.le_of_ble_eq_true rfl)⟩ ⟨Nat.le_refl _, Nat.le_refl _⟩ ?_
      by_cases c : kAt T a = 136
      ·
        rw [if_pos c]
        rw [ifQ_y0 c] at hR1
        have hR2 : .error (2, a) = res := hR1
        refine qi_if_eq (tgt := 129) dX12_tellLaw_25 (by decide) (fun z => False.elim ((by cases z))) (fun z => ?_)
        refine qi_iload_n (i := 3) (x := nI i) dX12_tellLaw_28 rfl rfl ?_
        refine qi_iconst (v := 4) dX12_tellLaw_29 rfl ?_
        refine qi_icmp_ne (tgt := 38) dX12_tellLaw_30 (by decide) (fun _h => absurd ((nI_eq (a := i) (b := 4) (by omega) (by omega)).mpr (by omega)) _h) (fun _hc => ?_)
        refine qi_aload_n (i := 0) (x := 280) dX12_tellLaw_33 rfl rfl ?_
        refine qi_iconst (v := 2) dX12_tellLaw_34 rfl ?_
        refine qi_callVV (K' := kX12_fail) (As := [.int 2]) mlX12_233 okX12_fail dX12_tellLaw_35 (c_X12_fail g hK (k := 2) (Or.inr rfl)) rfl (by decide) rfl (by decide) rfl rfl (Nat.le_of_ble_eq_true rfl) ⟨(Nat.le_of_ble_eq_true rfl), (Nat.le_of_ble_eq_true rfl)⟩ ⟨Nat.le_refl _, Nat.le_refl _⟩ (fun M2 ⟨k2, f2⟩ => ?_)
        refine qi_aload_n (i := 0) (x := 280) dX12_tellLaw_38 rfl rfl ?_
        refine qi_getI (x := nI 2) flX12_218 dX12_tellLaw_39 rfl (by decide) k2.2.2.1 ?_
        refine qi_if_le (tgt := 46) dX12_tellLaw_42 (by decide) (fun _h => absurd ((nI_leI (a := 2) (b := 0) (by omega) (by omega)).mp _h) (by omega)) (fun _hc => ?_)
        exact qi_retV rfl dX12_tellLaw_45 (⟨qPy_ie hR2.symm k2, ff.tr (MT f2)⟩)
      ·
        rw [if_neg c]
        rw [ifQ_n c, bQ_as] at hR1
        refine qi_if_eq (tgt := 129) dX12_tellLaw_25 (by decide) (fun z => ?_) (fun z => False.elim ((z rfl)))
        exact LAST i a bs M1 hl (by omega) hK hop hc hbn hBr hb1 ff hR1
    | succ n ih =>
      intro i a bs M1 ei hl hK hop hc hbn hBr hb1 ff hR1
      have hz := hK.2.1.2.2.2
      refine qi_aload_n (i := 0) (x := 280) dX12_tellLaw_12 rfl rfl ?_
      refine qi_getI (x := nI 0) flX12_218 dX12_tellLaw_13 rfl (by decide) hz ?_
      refine qi_if_ne (tgt := 129) dX12_tellLaw_16 (by decide) (fun _h => absurd ((nI_eq (a := 0) (b := 0) (by omega) (by omega)).mpr (by omega)) _h) (fun _hc => ?_)
      refine qi_aload_n (i := 0) (x := 280) dX12_tellLaw_19 rfl rfl ?_
      refine qi_bipush (v := 28) dX12_tellLaw_20 rfl ?_
      refine qi_callPVI (v := (if kAt T a = 136 then 1 else 0)) (K' := kX12_is) (As := [.int 28]) mlX12_236 okX12_is dX12_tellLaw_22 (c_X12_is g hT hK (k := 136) (by decide)) rfl (by decide) rfl (by decide) rfl rfl (Nat.le_of_ble_eq_true rfl) ⟨(Nat.le_of_ble_eq_true rfl), (Nat.le_of_ble_eq_true rfl)⟩ ⟨Nat.le_refl _, Nat.le_refl _⟩ ?_
      by_cases c : kAt T a = 136
      ·
        rw [if_pos c]
        rw [ifQ_y c, bQ_as] at hR1
        obtain ⟨bn, ebn⟩ : ∃ x, x = b0 + i := ⟨_, rfl⟩
        obtain ⟨c1, ec1⟩ : ∃ x, x = o0 + lwT bs [] := ⟨_, rfl⟩
        rw [← ebn] at hbn
        rw [← ec1] at hc
        refine qi_if_eq (tgt := 129) dX12_tellLaw_25 (by decide) (fun z => False.elim ((by cases z))) (fun z => ?_)
        refine qi_iload_n (i := 3) (x := nI i) dX12_tellLaw_28 rfl rfl ?_
        refine qi_iconst (v := 4) dX12_tellLaw_29 rfl ?_
        refine qi_icmp_ne (tgt := 38) dX12_tellLaw_30 (by decide) (fun _hc => ?_) (fun _h => absurd ((nI_eq (a := i) (b := 4) (by omega) (by omega)).mp _h) (by omega))
        refine qi_aload_n (i := 0) (x := 280) dX12_tellLaw_38 rfl rfl ?_
        refine qi_getI (x := nI 0) flX12_218 dX12_tellLaw_39 rfl (by decide) hz ?_
        refine qi_if_le (tgt := 46) dX12_tellLaw_42 (by decide) (fun _hc => ?_) (fun _h => absurd ((nI_leI (a := 0) (b := 0) (by omega) (by omega)).mpr (by omega)) _h)
        refine qi_iinc (i := 3) (x := nI i) (v := nI (i + 1)) (L2 := [some (.ref 280), some (.int (nI k)), some (.int (nI b0)), some (.int (nI (i + 1)))]) dX12_tellLaw_46 rfl (nI_1 i) (Nat.le_of_ble_eq_true rfl) rfl ?_
        refine qi_aload_n (i := 0) (x := 280) dX12_tellLaw_49 rfl rfl ?_
        refine qi_callVV (K' := kX12_goesOn) (As := []) mlX12_239 okX12_goesOn dX12_tellLaw_50 (c_X12_goesOn g hK c (by decide)) rfl (by decide) rfl (by decide) rfl rfl (Nat.le_of_ble_eq_true rfl) ⟨(Nat.le_of_ble_eq_true rfl), (Nat.le_of_ble_eq_true rfl)⟩ ⟨Nat.le_refl _, Nat.le_refl _⟩ (fun M2 ⟨k2, f2⟩ => ?_)
        have ff2 := ff.tr (MT f2)
        have hb2 : M2.1 280 44 = nI bn := (f2.1 _ _ (by unfold SYt; omega)).trans hbn
        cases hA1 : acQ T 136 a with
        | error e =>
          rw [bQ_e hA1] at hR1
          exact L53 e M2 bn (i + 1) hR1.symm (qPy_e hA1 k2) hb2 (by omega) (by omega) ff2
        | ok a1 =>
          rw [bQ_o hA1, bQ_as] at hR1
          have i1 := ac_ok hA1
          have q2 := qPy_o hA1 k2
          have hM2 := q2.1.1
          have hc2 : M2.1 280 50 = nI c1 := (f2.1 _ _ (by unfold SYt; omega)).trans hc
          have ho2 : M2.1 280 12 = 0 := (f2.1 _ _ (by unfold SYt; omega)).trans hop
          refine qi_aload_n (i := 0) (x := 280) dX12_tellLaw_53 rfl rfl ?_
          refine qi_getR (x := 311) flX12_109 dX12_tellLaw_54 rfl (by decide) (hM2 280 45 311 rfl) ?_
          refine qi_aload_n (i := 0) (x := 280) dX12_tellLaw_57 rfl rfl ?_
          refine qi_getI (x := nI bn) flX12_257 dX12_tellLaw_58 rfl (by decide) hb2 ?_
          refine qi_iconst (v := 1) dX12_tellLaw_61 rfl ?_
          refine qi_zastN (j := bn) dX12_tellLaw_62 rfl (by decide) rfl (by omega) (by decide) (by rfl) ?_
          refine qi_aload_n (i := 0) (x := 280) dX12_tellLaw_63 rfl rfl ?_
          refine qi_getR (x := 312) flX12_113 dX12_tellLaw_64 rfl (by decide) (hM2 280 46 312 rfl) ?_
          refine qi_aload_n (i := 0) (x := 280) dX12_tellLaw_67 rfl rfl ?_
          refine qi_getI (x := nI bn) flX12_257 dX12_tellLaw_68 rfl (by decide) ((wI_a (by decide)).trans hb2) ?_
          refine qi_aload_n (i := 0) (x := 280) dX12_tellLaw_71 rfl rfl ?_
          refine qi_getI (x := nI c1) flX12_260 dX12_tellLaw_72 rfl (by decide) ((wI_a (by decide)).trans hc2) ?_
          refine qi_iastN (j := bn) dX12_tellLaw_75 rfl (by decide) rfl (by omega) (by decide) ?_
          generalize e1 : wI (wI M2 311 bn 1) 312 bn (nI c1) = W1
          have FW1 : qFr (fun b j => (b = 311 ∨ b = 312) ∧ j = bn) M2 W1 := by
            rw [← e1]
            exact (qFr.rf.wI (by omega)).wI (by omega)
          have w311 : W1.1 311 bn = 1 := by rw [← e1, wI_a (by decide), wI_s]
          have w312 : W1.1 312 bn = nI c1 := by rw [← e1, wI_s]
          have kW1 := q2.fr FW1 (fun b j z => by omega)
          have fW1 := ff2.tr (FW1.mono (S' := SLw S ck bk k) (fun b j z => by unfold SLw; omega))
          have bW1 : W1.1 280 44 = nI bn := (FW1.1 _ _ (by omega)).trans hb2
          refine qi_aload_n (i := 0) (x := 280) dX12_tellLaw_76 rfl rfl ?_
          refine qi_callVV (K' := kX12_expression) (As := []) mlX12_315 okX12_expression dX12_tellLaw_77 (c_X12_expression g hT kW1 ((FW1.1 _ _ (by omega)).trans ho2) (ck := ck + lwT bs []) (show c1 = 420 * S + (ck + lwT bs []) by omega) ((FW1.1 _ _ (by omega)).trans hc2) (by omega)) rfl (by decide) rfl (by decide) rfl rfl (Nat.le_of_ble_eq_true rfl) ⟨(Nat.le_of_ble_eq_true rfl), (Nat.le_of_ble_eq_true rfl)⟩ ⟨Nat.le_refl _, Nat.le_refl _⟩ (fun M3 ⟨k3, f3⟩ => ?_)
          have ff3 := fW1.tr (ME (by omega) f3)
          have hb3 : M3.1 280 44 = nI bn := (f3.1 _ _ (by unfold SE; omega)).trans bW1
          cases hA2 : exQ T 6 a1 with
          | error e =>
            rw [bQ_e hA2] at hR1
            exact L80 e M3 bn (i + 1) hR1.symm (qPy_e hA2 k3) hb3 (by omega) (by omega) ff3
          | ok v1 =>
            rw [bQ_o hA2, bQ_as] at hR1
            have x1 := ex_ok hT 6 _ _ hA2
            have y1 := x1.2.2.1
            have z1 := x1.1
            obtain ⟨q3, o3, d3, r3⟩ := qPy_o hA2 k3
            refine qi_aload_n (i := 0) (x := 280) dX12_tellLaw_80 rfl rfl ?_
            refine qi_bipush (v := 13) dX12_tellLaw_81 rfl ?_
            refine qi_callVV (K' := kX12_must) (As := [.int 13]) mlX12_295 okX12_must dX12_tellLaw_83 (c_X12_must g hT q3 (k := 60) (by decide) (by decide)) rfl (by decide) rfl (by decide) rfl rfl (Nat.le_of_ble_eq_true rfl) ⟨(Nat.le_of_ble_eq_true rfl), (Nat.le_of_ble_eq_true rfl)⟩ ⟨Nat.le_refl _, Nat.le_refl _⟩ (fun M4 ⟨k4, f4⟩ => ?_)
            have ff4 := ff3.tr (MT f4)
            have hb4 : M4.1 280 44 = nI bn := (f4.1 _ _ (by unfold SYt; omega)).trans hb3
            cases hA3 : acQ T 60 v1.1 with
            | error e =>
              rw [bQ_e hA3] at hR1
              exact L86 e M4 bn (i + 1) hR1.symm (qPy_e hA3 k4) hb4 (by omega) (by omega) ff4
            | ok a2 =>
              rw [bQ_o hA3, bQ_as] at hR1
              have i3 := ac_ok hA3
              have q4 := qPy_o hA3 k4
              have hM4 := q4.1.1
              have hc4 : M4.1 280 50 = nI (c1 + v1.2.length) := (f4.1 _ _ (by unfold SYt; omega)).trans d3
              have ho4 : M4.1 280 12 = 0 := (f4.1 _ _ (by unfold SYt; omega)).trans o3
              refine qi_aload_n (i := 0) (x := 280) dX12_tellLaw_86 rfl rfl ?_
              refine qi_getR (x := 313) flX12_116 dX12_tellLaw_87 rfl (by decide) (hM4 280 47 313 rfl) ?_
              refine qi_aload_n (i := 0) (x := 280) dX12_tellLaw_90 rfl rfl ?_
              refine qi_getI (x := nI bn) flX12_257 dX12_tellLaw_91 rfl (by decide) hb4 ?_
              refine qi_aload_n (i := 0) (x := 280) dX12_tellLaw_94 rfl rfl ?_
              refine qi_getI (x := nI (c1 + v1.2.length)) flX12_260 dX12_tellLaw_95 rfl (by decide) hc4 ?_
              refine qi_iastN (j := bn) dX12_tellLaw_98 rfl (by decide) rfl (by omega) (by decide) ?_
              generalize e2 : wI M4 313 bn (nI (c1 + v1.2.length)) = W2
              have FW2 : qFr (fun b j => b = 313 ∧ j = bn) M4 W2 := by
                rw [← e2]
                exact qFr.rf.wI (by omega)
              have w313 : W2.1 313 bn = nI (c1 + v1.2.length) := by rw [← e2, wI_s]
              have kW2 := q4.fr FW2 (fun b j z => by omega)
              have fW2 := ff4.tr (FW2.mono (S' := SLw S ck bk k) (fun b j z => by unfold SLw; omega))
              have bW2 : W2.1 280 44 = nI bn := (FW2.1 _ _ (by omega)).trans hb4
              have zW2 := kW2.2.1.2.2.2
              refine qi_aload_n (i := 0) (x := 280) dX12_tellLaw_99 rfl rfl ?_
              refine qi_getI (x := nI 0) flX12_218 dX12_tellLaw_100 rfl (by decide) zW2 ?_
              refine qi_if_ne (tgt := 110) dX12_tellLaw_103 (by decide) (fun _h => absurd ((nI_eq (a := 0) (b := 0) (by omega) (by omega)).mpr (by omega)) _h) (fun _hc => ?_)
              refine qi_aload_n (i := 0) (x := 280) dX12_tellLaw_106 rfl rfl ?_
              refine qi_callVV (K' := kX12_expression) (As := []) mlX12_315 okX12_expression dX12_tellLaw_107 (c_X12_expression g hT kW2 ((FW2.1 _ _ (by omega)).trans ho4) (ck := ck + lwT bs [] + v1.2.length) (show c1 + v1.2.length = 420 * S + (ck + lwT bs [] + v1.2.length) by omega) ((FW2.1 _ _ (by omega)).trans hc4) (by omega)) rfl (by decide) rfl (by decide) rfl rfl (Nat.le_of_ble_eq_true rfl) ⟨(Nat.le_of_ble_eq_true rfl), (Nat.le_of_ble_eq_true rfl)⟩ ⟨Nat.le_refl _, Nat.le_refl _⟩ (fun M5 ⟨k5, f5⟩ => ?_)
              have ff5 := fW2.tr (ME (by omega) f5)
              have hb5 : M5.1 280 44 = nI bn := (f5.1 _ _ (by unfold SE; omega)).trans bW2
              cases hA4 : exQ T 6 a2 with
              | error e =>
                rw [bQ_e hA4] at hR1
                exact L110 e M5 bn (i + 1) hR1.symm (qPy_e hA4 k5) hb5 (by omega) (by omega) ff5
              | ok v2 =>
                rw [bQ_o hA4, bQ_as] at hR1
                have x2 := ex_ok hT 6 _ _ hA4
                have y2 := x2.2.2.1
                have z2 := x2.1
                obtain ⟨q5, o5, d5, r5⟩ := qPy_o hA4 k5
                refine qi_aload_n (i := 0) (x := 280) dX12_tellLaw_110 rfl rfl ?_
                refine qi_bipush (v := 29) dX12_tellLaw_111 rfl ?_
                refine qi_callVV (K' := kX12_must) (As := [.int 29]) mlX12_295 okX12_must dX12_tellLaw_113 (c_X12_must g hT q5 (k := 137) (by decide) (by decide)) rfl (by decide) rfl (by decide) rfl rfl (Nat.le_of_ble_eq_true rfl) ⟨(Nat.le_of_ble_eq_true rfl), (Nat.le_of_ble_eq_true rfl)⟩ ⟨Nat.le_refl _, Nat.le_refl _⟩ (fun M6 ⟨k6, f6⟩ => ?_)
                have ff6 := ff5.tr (MT f6)
                have hb6 : M6.1 280 44 = nI bn := (f6.1 _ _ (by unfold SYt; omega)).trans hb5
                cases hA5 : acQ T 137 v2.1 with
                | error e =>
                  rw [bQ_e hA5] at hR1
                  exact L116 e M6 bn (i + 1) hR1.symm (qPy_e hA5 k6) hb6 (by omega) (by omega) ff6
                | ok a3 =>
                  rw [bQ_o hA5, bQ_as] at hR1
                  have i5 := ac_ok hA5
                  have q6 := qPy_o hA5 k6
                  have hc6 : M6.1 280 50 = nI (c1 + v1.2.length + v2.2.length) := (f6.1 _ _ (by unfold SYt; omega)).trans d5
                  have ho6 : M6.1 280 12 = 0 := (f6.1 _ _ (by unfold SYt; omega)).trans o5
                  refine qi_aload_n (i := 0) (x := 280) dX12_tellLaw_116 rfl rfl ?_
                  refine qi_callVV (K' := kX12_term) (As := []) mlX12_318 okX12_term dX12_tellLaw_117 (c_X12_term g hT q6 ho6 (ck := ck + lwT bs [] + v1.2.length + v2.2.length) (show c1 + v1.2.length + v2.2.length = 420 * S + (ck + lwT bs [] + v1.2.length + v2.2.length) by omega) hc6 (by omega) hb6 (by omega)) rfl (by decide) rfl (by decide) rfl rfl (Nat.le_of_ble_eq_true rfl) ⟨(Nat.le_of_ble_eq_true rfl), (Nat.le_of_ble_eq_true rfl)⟩ ⟨Nat.le_refl _, Nat.le_refl _⟩ (fun M7 ⟨k7, b7, f7⟩ => ?_)
                  have ff7 := ff6.tr (MM (by omega) (by omega) (by omega) f7)
                  cases hA6 : exQ T 6 a3 with
                  | error e =>
                    rw [bQ_e hA6] at hR1
                    exact L120 e M7 (bn + 1) (i + 1) hR1.symm (qPy_e hA6 k7) b7 (by omega) (by omega) ff7
                  | ok v3 =>
                    rw [bQ_o hA6, bQ_as] at hR1
                    have x3 := ex_ok hT 6 _ _ hA6
                    have y3 := x3.2.2.1
                    have z3 := x3.1
                    obtain ⟨⟨q7, o7, d7, r7⟩, h314, h315⟩ := qPy_o hA6 k7
                    refine qi_aload_n (i := 0) (x := 280) dX12_tellLaw_120 rfl rfl ?_
                    refine qi_bipush (v := 30) dX12_tellLaw_121 rfl ?_
                    refine qi_callVV (K' := kX12_must) (As := [.int 30]) mlX12_295 okX12_must dX12_tellLaw_123 (c_X12_must g hT q7 (k := 138) (by decide) (by decide)) rfl (by decide) rfl (by decide) rfl rfl (Nat.le_of_ble_eq_true rfl) ⟨(Nat.le_of_ble_eq_true rfl), (Nat.le_of_ble_eq_true rfl)⟩ ⟨Nat.le_refl _, Nat.le_refl _⟩ (fun M8 ⟨k8, f8⟩ => ?_)
                    have ff8 := ff7.tr (MT f8)
                    have hb8 : M8.1 280 44 = nI (bn + 1) := (f8.1 _ _ (by unfold SYt; omega)).trans b7
                    refine qi_goto (tgt := 12) dX12_tellLaw_126 (by decide) ?_
                    cases hA7 : acQ T 138 v3.1 with
                    | error e =>
                      rw [bQ_e hA7] at hR1
                      exact L12 e M8 (bn + 1) (i + 1) hR1.symm (qPy_e hA7 k8) hb8 (by omega) (by omega) ff8
                    | ok a4 =>
                      rw [bQ_o hA7] at hR1
                      have i7 := ac_ok hA7
                      have q8 := qPy_o hA7 k8
                      have T5 : qFr (SBb bn (c1 + v1.2.length + v2.2.length)) M5 M8 := ((f6.mono (S' := SBb bn (c1 + v1.2.length + v2.2.length)) (fun b j z => by unfold SYt at z; unfold SBb; omega)).tr (f7.mono (fun b j z => by unfold STm SE at z; unfold SBb; omega))).tr (f8.mono (fun b j z => by unfold SYt at z; unfold SBb; omega))
                      have T4 : qFr (SBb bn (c1 + v1.2.length)) W2 M8 := (f5.mono (S' := SBb bn (c1 + v1.2.length)) (fun b j z => by unfold SE at z; unfold SBb; omega)).tr (T5.mono (fun b j z => by unfold SBb at z ⊢; omega))
                      have T3 : qFr (SBa bn (c1 + v1.2.length)) M3 M8 := ((f4.mono (S' := SBa bn (c1 + v1.2.length)) (fun b j z => by unfold SYt at z; unfold SBa; omega)).tr (FW2.mono (fun b j z => by unfold SBa; omega))).tr (T4.mono (fun b j z => by unfold SBb at z; unfold SBa; omega))
                      have T1 : qFr (SBa bn c1) W1 M8 := (f3.mono (S' := SBa bn c1) (fun b j z => by unfold SE at z; unfold SBa; omega)).tr (T3.mono (fun b j z => by unfold SBa at z ⊢; omega))
                      have lt := lwT_snoc (v1.2, v2.2, v3.2) bs
                      have lt2 : brT (v1.2, v2.2, v3.2) = v1.2.length + v2.2.length + v3.2.length := rfl
                      refine ih (i + 1) a4 (bs ++ [(v1.2, v2.2, v3.2)]) M8 (by omega) (by rw [List.length_append, hl]; rfl) q8 ((f8.1 _ _ (by unfold SYt; omega)).trans o7) ?_ (hb8.trans (by congr 1; omega)) (qBrs_snoc bs b0 o0 ?_ ?_) (by omega) ff8 hR1
                      · rw [f8.1 _ _ (by unfold SYt; omega), d7]
                        congr 1
                        omega
                      · refine qBrs.fr T1 bs b0 o0 ?_ (fun c i2 c1' c2' hi2 => by unfold SBa; omega) (fun j hj => by unfold SBa; omega)
                        refine qBrs.fr FW1 bs b0 o0 ?_ (fun c i2 c1' c2' hi2 => by omega) (fun j hj => by omega)
                        exact qBrs.fr f2 bs b0 o0 hBr (fun c i2 c1' c2' hi2 => by unfold SYt; omega) (fun j hj => by unfold SYt; omega)
                      · rw [hl, ← ebn, ← ec1]
                        refine ⟨⟨?_, ?_, ?_, ?_, ?_⟩, cellR_fr r3 T3 (fun j hj => by have hj2 : j < c1 + v1.2.length := hj; unfold SBa; omega), cellR_fr r5 T5 (fun j hj => by have hj2 : j < c1 + v1.2.length + v2.2.length := hj; unfold SBb; omega), cellR_fr r7 f8 (fun j hj => by unfold SYt; omega)⟩
                        · rw [T1.1 _ _ (by unfold SBa; omega), w311]
                        · rw [T1.1 _ _ (by unfold SBa; omega), w312]
                        · rw [T4.1 _ _ (by unfold SBb; omega), w313]
                        · rw [f8.1 _ _ (by unfold SYt; omega), h314]
                        · rw [f8.1 _ _ (by unfold SYt; omega), h315]
      ·
        rw [if_neg c]
        rw [ifQ_n c, bQ_as] at hR1
        refine qi_if_eq (tgt := 129) dX12_tellLaw_25 (by decide) (fun z => ?_) (fun z => False.elim ((z rfl)))
        exact LAST i a bs M1 hl (by omega) hK hop hc hbn hBr hb1 ff hR1
  refine qV.of (j := 2) (pn_RX12) rfl ?_
  show qT g kX12_tellLaw (qR 5 0 0) (qZV g (fun M' => qPy S T res (okLw2 S T s N nc ck bk k) M' ∧ qFr (SLw S ck bk k) M M')) 0 [some (.ref 280), some (.int (nI k)), none, none] [] 333 M (0, 0)
  refine qi_aload_n (i := 0) (x := 280) dX12_tellLaw_0 rfl rfl ?_
  refine qi_iconst (v := 5) dX12_tellLaw_1 rfl ?_
  refine qi_callVV (K' := kX12_must) (As := [.int 5]) mlX12_295 okX12_must dX12_tellLaw_2 (c_X12_must g hT h0 (k := 61) (by decide) (by decide)) rfl (by decide) rfl (by decide) rfl rfl (Nat.le_of_ble_eq_true rfl) ⟨(Nat.le_of_ble_eq_true rfl), (Nat.le_of_ble_eq_true rfl)⟩ ⟨Nat.le_refl _, Nat.le_refl _⟩ (fun M1 ⟨k1, f1⟩ => ?_)
  have ff1 := MT f1
  have hb1 : M1.1 280 44 = nI b0 := (f1.1 _ _ (by unfold SYt; omega)).trans (hb.trans (by rw [hb0]))
  refine qi_aload_n (i := 0) (x := 280) dX12_tellLaw_5 rfl rfl ?_
  refine qi_getI (x := nI b0) flX12_257 dX12_tellLaw_6 rfl (by decide) hb1 ?_
  refine qi_istore_n (i := 2) (L2 := [some (.ref 280), some (.int (nI k)), some (.int (nI b0)), none]) dX12_tellLaw_9 rfl (Nat.le_of_ble_eq_true rfl) rfl ?_
  refine qi_iconst (v := 0) dX12_tellLaw_10 rfl ?_
  refine qi_istore_n (i := 3) (L2 := [some (.ref 280), some (.int (nI k)), some (.int (nI b0)), some (.int 0)]) dX12_tellLaw_11 rfl (Nat.le_of_ble_eq_true rfl) rfl ?_
  unfold laW laQ at hR
  rw [bQ_as] at hR
  cases hA : acQ T 61 a0 with
  | error e =>
    rw [bQ_e hA] at hR
    exact L12 e M1 b0 0 hR.symm (qPy_e hA k1) hb1 (Nat.le_refl _) (by omega) ff1
  | ok a1 =>
    rw [bQ_o hA] at hR
    have i1 := ac_ok hA
    exact K 4 0 a1 [] M1 rfl rfl (qPy_o hA k1) ((f1.1 _ _ (by unfold SYt; omega)).trans ho0) ((f1.1 _ _ (by unfold SYt; omega)).trans (hc0.trans (by rw [← ho0']; rfl))) hb1 trivial (by show ck + 0 ≤ a1; omega) ff1 hR
