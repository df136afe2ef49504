/-! ThimbleSea$Sea: copies, beginnings, drops that come in -/
set_option maxHeartbeats 4000000 in
theorem c_X6_copyFrom (g : qG) {a b : Nat} {ρ : Nat → Int32} {M : qM} (hs : qIsS a) (hb : qIsS b) (hd : a + 5 < b ∨ b + 5 < a) (hM : qRf M) (hS : qSea M b ρ) : qV g 1 kX6_copyFrom [.ref a, .ref b] M (fun M' => qSea M' a ρ ∧ qFr (SS a) M M') := by
  have hla := hs.2.2.2.2.2.2
  have hlb := hb.2.2.2.2.2.2
  refine qV.of (j := 0) (pn_RX6) rfl ?_
  show qT g kX6_copyFrom (qR 1 0 0) (qZV g (fun M' => qSea M' a ρ ∧ qFr (SS a) M M')) 0 [some (.ref a), some (.ref b)] [] 333 M (0, 0)
  refine qi_aload_n (i := 1) (x := b) dX6_copyFrom_0 rfl rfl ?_
  refine qi_getR (x := b + 1) flX6_9 dX6_copyFrom_1 hb.1 (by have := hb.2.2.2.2.2.2; omega) (hM b 0 (b + 1) (qref_6_0 hb.1)) ?_
  refine qi_iconst (v := 0) dX6_copyFrom_4 rfl ?_
  refine qi_aload_n (i := 0) (x := a) dX6_copyFrom_5 rfl rfl ?_
  refine qi_getR (x := a + 1) flX6_9 dX6_copyFrom_6 hs.1 (by have := hs.2.2.2.2.2.2; omega) (hM a 0 (a + 1) (qref_6_0 hs.1)) ?_
  refine qi_iconst (v := 0) dX6_copyFrom_9 rfl ?_
  refine qi_bipush (v := 40) dX6_copyFrom_10 rfl ?_
  refine qi_copy (N := 40) cpX6_43 cp_n cp_s cp_i dX6_copyFrom_12 hb.2.1 (by have := hb.2.2.2.2.2.2; omega) hs.2.1 (by have := hs.2.2.2.2.2.2; omega) (by decide) rfl (by decide) (by decide) (Nat.le_of_ble_eq_true rfl) ⟨by decide, by decide⟩ ?_
  refine qi_aload_n (i := 1) (x := b) dX6_copyFrom_15 rfl rfl ?_
  refine qi_getR (x := b + 3) flX6_18 dX6_copyFrom_16 hb.1 (by have := hb.2.2.2.2.2.2; omega) (hM b 2 (b + 3) (qref_6_2 hb.1)) ?_
  refine qi_iconst (v := 0) dX6_copyFrom_19 rfl ?_
  refine qi_aload_n (i := 0) (x := a) dX6_copyFrom_20 rfl rfl ?_
  refine qi_getR (x := a + 3) flX6_18 dX6_copyFrom_21 hs.1 (by have := hs.2.2.2.2.2.2; omega) (hM a 2 (a + 3) (qref_6_2 hs.1)) ?_
  refine qi_iconst (v := 0) dX6_copyFrom_24 rfl ?_
  refine qi_bipush (v := 8) dX6_copyFrom_25 rfl ?_
  refine qi_copy (N := 8) cpX6_43 cp_n cp_s cp_i dX6_copyFrom_27 hb.2.2.2.1 (by have := hb.2.2.2.2.2.2; omega) hs.2.2.2.1 (by have := hs.2.2.2.2.2.2; omega) (by decide) rfl (by decide) (by decide) (Nat.le_of_ble_eq_true rfl) ⟨by decide, by decide⟩ ?_
  refine qi_aload_n (i := 1) (x := b) dX6_copyFrom_30 rfl rfl ?_
  refine qi_getR (x := b + 4) flX6_21 dX6_copyFrom_31 hb.1 (by have := hb.2.2.2.2.2.2; omega) (hM b 3 (b + 4) (qref_6_3 hb.1)) ?_
  refine qi_iconst (v := 0) dX6_copyFrom_34 rfl ?_
  refine qi_aload_n (i := 0) (x := a) dX6_copyFrom_35 rfl rfl ?_
  refine qi_getR (x := a + 4) flX6_21 dX6_copyFrom_36 hs.1 (by have := hs.2.2.2.2.2.2; omega) (hM a 3 (a + 4) (qref_6_3 hs.1)) ?_
  refine qi_iconst (v := 0) dX6_copyFrom_39 rfl ?_
  refine qi_bipush (v := 8) dX6_copyFrom_40 rfl ?_
  refine qi_copy (N := 8) cpX6_43 cp_n cp_s cp_i dX6_copyFrom_42 hb.2.2.2.2.1 (by have := hb.2.2.2.2.2.2; omega) hs.2.2.2.2.1 (by have := hs.2.2.2.2.2.2; omega) (by decide) rfl (by decide) (by decide) (Nat.le_of_ble_eq_true rfl) ⟨by decide, by decide⟩ ?_
  refine qi_aload_n (i := 1) (x := b) dX6_copyFrom_45 rfl rfl ?_
  refine qi_getR (x := b + 5) flX6_24 dX6_copyFrom_46 hb.1 (by have := hb.2.2.2.2.2.2; omega) (hM b 4 (b + 5) (qref_6_4 hb.1)) ?_
  refine qi_iconst (v := 0) dX6_copyFrom_49 rfl ?_
  refine qi_aload_n (i := 0) (x := a) dX6_copyFrom_50 rfl rfl ?_
  refine qi_getR (x := a + 5) flX6_24 dX6_copyFrom_51 hs.1 (by have := hs.2.2.2.2.2.2; omega) (hM a 4 (a + 5) (qref_6_4 hs.1)) ?_
  refine qi_iconst (v := 0) dX6_copyFrom_54 rfl ?_
  refine qi_bipush (v := 8) dX6_copyFrom_55 rfl ?_
  refine qi_copy (N := 8) cpX6_43 cp_n cp_s cp_i dX6_copyFrom_57 hb.2.2.2.2.2.1 (by have := hb.2.2.2.2.2.2; omega) hs.2.2.2.2.2.1 (by have := hs.2.2.2.2.2.2; omega) (by decide) rfl (by decide) (by decide) (Nat.le_of_ble_eq_true rfl) ⟨by decide, by decide⟩ ?_
  refine qi_aload_n (i := 0) (x := a) dX6_copyFrom_60 rfl rfl ?_
  refine qi_aload_n (i := 1) (x := b) dX6_copyFrom_61 rfl rfl ?_
  refine qi_getI (x := (wC (wC (wC (wC M (b + 1) (a + 1) 40) (b + 3) (a + 3) 8) (b + 4) (a + 4) 8) (b + 5) (a + 5) 8).1 b 5) flX6_27 dX6_copyFrom_62 hb.1 (by have := hb.2.2.2.2.2.2; omega) rfl ?_
  refine qi_putI flX6_27 q_cls6 (ty6_5 _) dX6_copyFrom_65 hs.1 (by have := hs.2.2.2.2.2.2; omega) ?_
  refine qi_aload_n (i := 0) (x := a) dX6_copyFrom_68 rfl rfl ?_
  refine qi_aload_n (i := 1) (x := b) dX6_copyFrom_69 rfl rfl ?_
  refine qi_getI (x := (wI (wC (wC (wC (wC M (b + 1) (a + 1) 40) (b + 3) (a + 3) 8) (b + 4) (a + 4) 8) (b + 5) (a + 5) 8) a 5 ((wC (wC (wC (wC M (b + 1) (a + 1) 40) (b + 3) (a + 3) 8) (b + 4) (a + 4) 8) (b + 5) (a + 5) 8).1 b 5)).1 b 6) flX6_31 dX6_copyFrom_70 hb.1 (by have := hb.2.2.2.2.2.2; omega) rfl ?_
  refine qi_putI flX6_31 q_cls6 (ty6_6 _) dX6_copyFrom_73 hs.1 (by have := hs.2.2.2.2.2.2; omega) ?_
  refine qi_aload_n (i := 0) (x := a) dX6_copyFrom_76 rfl rfl ?_
  refine qi_aload_n (i := 1) (x := b) dX6_copyFrom_77 rfl rfl ?_
  refine qi_getI (x := (wI (wI (wC (wC (wC (wC M (b + 1) (a + 1) 40) (b + 3) (a + 3) 8) (b + 4) (a + 4) 8) (b + 5) (a + 5) 8) a 5 ((wC (wC (wC (wC M (b + 1) (a + 1) 40) (b + 3) (a + 3) 8) (b + 4) (a + 4) 8) (b + 5) (a + 5) 8).1 b 5)) a 6 ((wI (wC (wC (wC (wC M (b + 1) (a + 1) 40) (b + 3) (a + 3) 8) (b + 4) (a + 4) 8) (b + 5) (a + 5) 8) a 5 ((wC (wC (wC (wC M (b + 1) (a + 1) 40) (b + 3) (a + 3) 8) (b + 4) (a + 4) 8) (b + 5) (a + 5) 8).1 b 5)).1 b 6)).1 b 7) flX6_34 dX6_copyFrom_78 hb.1 (by have := hb.2.2.2.2.2.2; omega) rfl ?_
  refine qi_putI flX6_34 q_cls6 (ty6_7 _) dX6_copyFrom_81 hs.1 (by have := hs.2.2.2.2.2.2; omega) ?_
  refine qi_retV rfl dX6_copyFrom_84 (?_)
  obtain ⟨h1, h2, h3, h4, h5, h6, h7⟩ := hS
  refine ⟨⟨fun k hk => ?_, fun k hk => ?_, fun k hk => ?_, fun k hk => ?_, ?_, ?_, ?_⟩, ?_⟩
  · simp only [wI_1, wC_1]
    grind
  · simp only [wI_1, wC_1]
    grind
  · simp only [wI_1, wC_1]
    grind
  · simp only [wI_1, wC_1]
    grind
  · simp only [wI_1, wC_1]
    grind
  · simp only [wI_1, wC_1]
    grind
  · simp only [wI_1, wC_1]
    grind
  · unfold SS
    refine (((qFr.wC (qFr.wC (qFr.wC (qFr.wC qFr.rf ?_) ?_) ?_) ?_).wI ?_).wI ?_).wI ?_
    all_goals first | omega | (intro j hj; omega)
set_option maxHeartbeats 4000000 in
theorem c_X6_letIn (g : qG) {a p k : Nat} {ρ : Nat → Int32} {π : qPl} {M : qM} (hs : qIsS a) (hp : qIsP p) (hd : a + 5 < 242) (hM : qRf M) (hS : qSea M a ρ) (hP : qPlan M p π) (hok : okPl π) (hk : k < π.1 2) (n : Int32) : qV g 1 kX6_letIn [.ref a, .ref p, .int (nI k), .int n] M (fun M' => qSea M' a (letInF (nI (π.1 4)) (π.2.1 6 k) (π.2.1 7 k) (nI (π.2.1 0 (π.2.1 7 k))) n ρ) ∧ qFr (SS a) M M') := by
  have hla := hp.2.1
  have hlb := hp.2.2
  have hk2 := hok.2.2.1
  have hkk := hok.2.2.2.2.2.2.2.2 k hk
  have hh8 := hok.2.1
  have hw5 := hok.1
  have e6 := hP.2.1 6 k (by omega) hk
  have e7 := hP.2.1 7 k (by omega) hk
  have e0 := hP.2.1 0 (π.2.1 7 k) (by omega) (show _ < π.1 0 from hkk.2)
  generalize hhx : π.2.1 6 k = h at *
  generalize hwx : π.2.1 7 k = w at *
  generalize hsx : π.2.1 0 w = z at *
  obtain ⟨h1, h2, h3, h4, h5, h6, h7⟩ := id hS
  refine qV.of (j := 3) (pn_RX6) rfl ?_
  show qT g kX6_letIn (qR 1 0 0) (qZV g (fun M' => qSea M' a (letInF (nI (π.1 4)) h w (nI z) n ρ) ∧ qFr (SS a) M M')) 0 [some (.ref a), some (.ref p), some (.int (nI k)), some (.int n), none, none, none] [] 333 M (0, 0)
  refine qi_aload_n (i := 1) (x := p) dX6_letIn_0 rfl rfl ?_
  refine qi_getR (x := p + 7) flX6_78 dX6_letIn_1 (hp.1 0 (by decide)) (by have := hp.2.2; omega) (hM p 6 (p + 7) (qref_3_6 (hp.1 0 (by decide)))) ?_
  refine qi_iload_n (i := 2) (x := nI k) dX6_letIn_4 rfl rfl ?_
  refine qi_ialdN (x := M.1 (p + 7) k) (j := k) dX6_letIn_5 (hp.1 7 (by decide)) (by have := hp.2.2; omega) rfl (by omega) (by decide) rfl ?_
  refine qe_top (y := nI h) e6 ?_
  refine qi_istore (i := 4) (L2 := [some (.ref a), some (.ref p), some (.int (nI k)), some (.int n), some (.int (nI h)), none, none]) dX6_letIn_6 (Nat.le_of_ble_eq_true rfl) rfl ?_
  refine qi_aload_n (i := 1) (x := p) dX6_letIn_8 rfl rfl ?_
  refine qi_getR (x := p + 8) flX6_122 dX6_letIn_9 (hp.1 0 (by decide)) (by have := hp.2.2; omega) (hM p 7 (p + 8) (qref_3_7 (hp.1 0 (by decide)))) ?_
  refine qi_iload_n (i := 2) (x := nI k) dX6_letIn_12 rfl rfl ?_
  refine qi_ialdN (x := M.1 (p + 8) k) (j := k) dX6_letIn_13 (hp.1 8 (by decide)) (by have := hp.2.2; omega) rfl (by omega) (by decide) rfl ?_
  refine qe_top (y := nI w) e7 ?_
  refine qi_istore (i := 5) (L2 := [some (.ref a), some (.ref p), some (.int (nI k)), some (.int n), some (.int (nI h)), some (.int (nI w)), none]) dX6_letIn_14 (Nat.le_of_ble_eq_true rfl) rfl ?_
  refine qi_iload_n (i := 3) (x := n) dX6_letIn_16 rfl rfl ?_
  refine qi_aload_n (i := 1) (x := p) dX6_letIn_17 rfl rfl ?_
  refine qi_getI (x := M.1 p 15) flX6_125 dX6_letIn_18 (hp.1 0 (by decide)) (by have := hp.2.2; omega) rfl ?_
  refine qe_top (y := nI (π.1 4)) hP.1.2.2.2.1 ?_
  refine qi_aload_n (i := 0) (x := a) dX6_letIn_21 rfl rfl ?_
  refine qi_getI (x := M.1 a 5) flX6_27 dX6_letIn_22 hs.1 (by have := hs.2.2.2.2.2.2; omega) rfl ?_
  refine qe_top (y := allF ρ) h5 ?_
  refine qi_isub dX6_letIn_25 ?_
  refine qi_min mtX6_112 mt_min_s mt_i mt_min_c dX6_letIn_26 (Nat.le_of_ble_eq_true rfl) ⟨(Nat.le_of_ble_eq_true rfl), (Nat.le_of_ble_eq_true rfl)⟩ ⟨Nat.le_refl _, Nat.le_refl _⟩ ?_
  generalize hcx : (if nI (π.1 4) - allF ρ < n then nI (π.1 4) - allF ρ else n) = c
  have hcx2 : comesF (nI (π.1 4)) n ρ = c := hcx
  refine qi_istore (i := 6) (L2 := [some (.ref a), some (.ref p), some (.int (nI k)), some (.int n), some (.int (nI h)), some (.int (nI w)), some (.int c)]) dX6_letIn_29 (Nat.le_of_ble_eq_true rfl) rfl ?_
  refine qi_aload_n (i := 0) (x := a) dX6_letIn_31 rfl rfl ?_
  refine qi_getR (x := a + 3) flX6_18 dX6_letIn_32 hs.1 (by have := hs.2.2.2.2.2.2; omega) (hM a 2 (a + 3) (qref_6_2 hs.1)) ?_
  refine qi_iload (i := 4) (x := nI h) dX6_letIn_35 rfl ?_
  refine qi_dup2 dX6_letIn_37 ?_
  refine qi_ialdN (x := M.1 (a + 3) h) (j := h) dX6_letIn_38 hs.2.2.2.1 (by have := hs.2.2.2.2.2.2; omega) rfl (by omega) (by decide) rfl ?_
  refine qi_iload_n (i := 3) (x := n) dX6_letIn_39 rfl rfl ?_
  refine qi_iload (i := 6) (x := c) dX6_letIn_40 rfl ?_
  refine qi_isub dX6_letIn_42 ?_
  refine qi_iadd dX6_letIn_43 ?_
  refine qi_iastN (j := h) dX6_letIn_44 hs.2.2.2.1 (by have := hs.2.2.2.2.2.2; omega) rfl (by omega) (by decide) ?_
  refine qi_aload_n (i := 0) (x := a) dX6_letIn_45 rfl rfl ?_
  refine qi_getR (x := a + 1) flX6_9 dX6_letIn_46 hs.1 (by have := hs.2.2.2.2.2.2; omega) (hM a 0 (a + 1) (qref_6_0 hs.1)) ?_
  refine qi_iload (i := 4) (x := nI h) dX6_letIn_49 rfl ?_
  refine qi_iconst (v := 5) dX6_letIn_51 rfl ?_
  refine qi_imul dX6_letIn_52 ?_
  refine qi_iload (i := 5) (x := nI w) dX6_letIn_53 rfl ?_
  refine qi_iadd dX6_letIn_55 ?_
  refine qe_top (y := nI (h * 5 + w)) (by rw [show (5 : Int32) = nI 5 from rfl, pk_mul, nI_add]) ?_
  refine qi_dup2 dX6_letIn_56 ?_
  refine qi_ialdN (x := (wI M (a + 3) h ((M.1 (a + 3) h) + (n - c))).1 (a + 1) (h * 5 + w)) (j := h * 5 + w) dX6_letIn_57 hs.2.1 (by have := hs.2.2.2.2.2.2; omega) rfl (by omega) (by decide) rfl ?_
  refine qi_iload (i := 6) (x := c) dX6_letIn_58 rfl ?_
  refine qi_iadd dX6_letIn_60 ?_
  refine qi_iastN (j := h * 5 + w) dX6_letIn_61 hs.2.1 (by have := hs.2.2.2.2.2.2; omega) rfl (by omega) (by decide) ?_
  refine qi_aload_n (i := 0) (x := a) dX6_letIn_62 rfl rfl ?_
  refine qi_getR (x := a + 5) flX6_24 dX6_letIn_63 hs.1 (by have := hs.2.2.2.2.2.2; omega) (hM a 4 (a + 5) (qref_6_4 hs.1)) ?_
  refine qi_iload (i := 4) (x := nI h) dX6_letIn_66 rfl ?_
  refine qi_dup2 dX6_letIn_68 ?_
  refine qi_ialdN (x := (wI (wI M (a + 3) h ((M.1 (a + 3) h) + (n - c))) (a + 1) (h * 5 + w) (((wI M (a + 3) h ((M.1 (a + 3) h) + (n - c))).1 (a + 1) (h * 5 + w)) + c)).1 (a + 5) h) (j := h) dX6_letIn_69 hs.2.2.2.2.2.1 (by have := hs.2.2.2.2.2.2; omega) rfl (by omega) (by decide) rfl ?_
  refine qi_iload (i := 6) (x := c) dX6_letIn_70 rfl ?_
  refine qi_iadd dX6_letIn_72 ?_
  refine qi_iastN (j := h) dX6_letIn_73 hs.2.2.2.2.2.1 (by have := hs.2.2.2.2.2.2; omega) rfl (by omega) (by decide) ?_
  refine qi_aload_n (i := 0) (x := a) dX6_letIn_74 rfl rfl ?_
  refine qi_dup dX6_letIn_75 ?_
  refine qi_getI (x := (wI (wI (wI M (a + 3) h ((M.1 (a + 3) h) + (n - c))) (a + 1) (h * 5 + w) (((wI M (a + 3) h ((M.1 (a + 3) h) + (n - c))).1 (a + 1) (h * 5 + w)) + c)) (a + 5) h (((wI (wI M (a + 3) h ((M.1 (a + 3) h) + (n - c))) (a + 1) (h * 5 + w) (((wI M (a + 3) h ((M.1 (a + 3) h) + (n - c))).1 (a + 1) (h * 5 + w)) + c)).1 (a + 5) h) + c)).1 a 5) flX6_27 dX6_letIn_76 hs.1 (by have := hs.2.2.2.2.2.2; omega) rfl ?_
  refine qi_iload (i := 6) (x := c) dX6_letIn_79 rfl ?_
  refine qi_iadd dX6_letIn_81 ?_
  refine qi_putI flX6_27 q_cls6 (ty6_5 _) dX6_letIn_82 hs.1 (by have := hs.2.2.2.2.2.2; omega) ?_
  refine qi_aload_n (i := 0) (x := a) dX6_letIn_85 rfl rfl ?_
  refine qi_ldc dX6_letIn_86 cnX6_128 ?_
  refine qi_aload_n (i := 0) (x := a) dX6_letIn_88 rfl rfl ?_
  refine qi_getI (x := (wI (wI (wI (wI M (a + 3) h ((M.1 (a + 3) h) + (n - c))) (a + 1) (h * 5 + w) (((wI M (a + 3) h ((M.1 (a + 3) h) + (n - c))).1 (a + 1) (h * 5 + w)) + c)) (a + 5) h (((wI (wI M (a + 3) h ((M.1 (a + 3) h) + (n - c))) (a + 1) (h * 5 + w) (((wI M (a + 3) h ((M.1 (a + 3) h) + (n - c))).1 (a + 1) (h * 5 + w)) + c)).1 (a + 5) h) + c)) a 5 (((wI (wI (wI M (a + 3) h ((M.1 (a + 3) h) + (n - c))) (a + 1) (h * 5 + w) (((wI M (a + 3) h ((M.1 (a + 3) h) + (n - c))).1 (a + 1) (h * 5 + w)) + c)) (a + 5) h (((wI (wI M (a + 3) h ((M.1 (a + 3) h) + (n - c))) (a + 1) (h * 5 + w) (((wI M (a + 3) h ((M.1 (a + 3) h) + (n - c))).1 (a + 1) (h * 5 + w)) + c)).1 (a + 5) h) + c)).1 a 5) + c)).1 a 6) flX6_31 dX6_letIn_89 hs.1 (by have := hs.2.2.2.2.2.2; omega) rfl ?_
  refine qi_iload (i := 6) (x := c) dX6_letIn_92 rfl ?_
  refine qi_aload_n (i := 1) (x := p) dX6_letIn_94 rfl rfl ?_
  refine qi_getR (x := p + 1) flX6_129 dX6_letIn_95 (hp.1 0 (by decide)) (by have := hp.2.2; omega) (hM p 0 (p + 1) (qref_3_0 (hp.1 0 (by decide)))) ?_
  refine qi_iload (i := 5) (x := nI w) dX6_letIn_98 rfl ?_
  refine qi_ialdN (x := (wI (wI (wI (wI M (a + 3) h ((M.1 (a + 3) h) + (n - c))) (a + 1) (h * 5 + w) (((wI M (a + 3) h ((M.1 (a + 3) h) + (n - c))).1 (a + 1) (h * 5 + w)) + c)) (a + 5) h (((wI (wI M (a + 3) h ((M.1 (a + 3) h) + (n - c))) (a + 1) (h * 5 + w) (((wI M (a + 3) h ((M.1 (a + 3) h) + (n - c))).1 (a + 1) (h * 5 + w)) + c)).1 (a + 5) h) + c)) a 5 (((wI (wI (wI M (a + 3) h ((M.1 (a + 3) h) + (n - c))) (a + 1) (h * 5 + w) (((wI M (a + 3) h ((M.1 (a + 3) h) + (n - c))).1 (a + 1) (h * 5 + w)) + c)) (a + 5) h (((wI (wI M (a + 3) h ((M.1 (a + 3) h) + (n - c))) (a + 1) (h * 5 + w) (((wI M (a + 3) h ((M.1 (a + 3) h) + (n - c))).1 (a + 1) (h * 5 + w)) + c)).1 (a + 5) h) + c)).1 a 5) + c)).1 (p + 1) w) (j := w) dX6_letIn_100 (hp.1 1 (by decide)) (by have := hp.2.2; omega) rfl (by omega) (by decide) rfl ?_
  refine qe_top (y := nI z) (by simp only [wI_1]; grind) ?_
  refine qi_imul dX6_letIn_101 ?_
  refine qi_iadd dX6_letIn_102 ?_
  refine qi_min mtX6_112 mt_min_s mt_i mt_min_c dX6_letIn_103 (Nat.le_of_ble_eq_true rfl) ⟨(Nat.le_of_ble_eq_true rfl), (Nat.le_of_ble_eq_true rfl)⟩ ⟨Nat.le_refl _, Nat.le_refl _⟩ ?_
  refine qi_putI flX6_31 q_cls6 (ty6_6 _) dX6_letIn_106 hs.1 (by have := hs.2.2.2.2.2.2; omega) ?_
  refine qi_retV rfl dX6_letIn_109 (?_)
  have hcm : nI z * 1 = nI z := by grind
  refine ⟨⟨fun j hj => ?_, fun j hj => ?_, fun j hj => ?_, fun j hj => ?_, ?_, ?_, ?_⟩, ?_⟩
  · simp only [wI_1, letInF, hcx2]
    grind
  · simp only [wI_1, letInF, hcx2]
    grind
  · simp only [wI_1, letInF, hcx2]
    grind
  · simp only [wI_1, letInF, hcx2]
    grind
  · rw [allF_letIn _ (by omega) (by omega), hcx2]
    simp only [wI_1]
    grind
  · simp only [wI_1, letInF, hcx2, minI]
    grind
  · simp only [wI_1, letInF, hcx2]
    grind
  · unfold SS
    refine ((((qFr.rf.wI ?_).wI ?_).wI ?_).wI ?_).wI ?_ <;> omega
