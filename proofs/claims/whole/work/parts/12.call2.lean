/-! calls without a receiver's class: static and special ones -/
section SD2
variable {p : Program} {l : Launch} {e : Env} {R : Room} {s : State} {m : MethodId} {args : Array Value} {below : List Frame} {meth : Method} {c : Code} {Q : State → Prop}
variable {mi : Nat} {X : XS} {sz : Nat} {ad : Nat → Nat} {zf : Value} {D : va_G} {cA : Nat → ClassId} {n0 z0 : Nat} {pc : Nat} {al : LV} {st : List Value} {ah : AH} {q : Nat × LV × List Value × AH}
variable {ls : Array Slot} {H : Heap} {locs : List Loc} {cells slots d mc ms i na a ci : Nat} {r : List Value} {Qc : Array Value → State → Outcome → State → Prop} {free : Addr → Prop}
theorem run_S {t : CE} {tq : Nat × Nat × List Nat} (hC : Cx p R s m args meth c mi X sz ad zf D cA) (hS : Sx s mi sz ad zf D cA n0 z0 al ah ls H locs) (hsz : H.size = sz + ah.length) (hdg : decode (mC mi) pc = .ok (.invokestatic i, 3))
    (ht : cE (mO mi) i = some t) (h0 : t.2.2.1 = 2) (h9 : ¬ t.2.2.2.2.2.1 = 9) (hle : t.2.2.2.1 ≤ st.length) (hfd : t.2.2.2.2.1.head? = some tq) (hw : stW (st.drop t.2.2.2.1) ≤ 8)
    (hM : Met l (mY tq.2.1) (wsm tq.2.1) (rmD d mc ms) (Pcc X sz ad zf D cA (st.take t.2.2.2.1).reverse ah) Qc mc ms free) (hRf : d + 4 ≤ R.frames) (hRl : 40 * (d + 4) ≤ R.locals) (hf : cells + mc ≤ R.cells ∧ slots + ms ≤ R.slots) :
    va_Run p l e R s m args below meth c H locs cells slots mc ms (F0 m pc ls (st.map (cv ad zf))) ((st.drop t.2.2.2.1).map (cv ad zf)) (Qc ((st.take t.2.2.2.1).reverse.map (cv ad zf)).toArray) free := by
  have hz := hz_of hC
  have hpre := pre_ok (al := al) hC hS hsz (st.take t.2.2.2.1).reverse
  obtain ⟨hx, hb, hml, hr, hlo, hown, hnm, hts, hE, hR⟩ := hC
  obtain ⟨-, hok, e1, e2⟩ := cE_of ht
  obtain ⟨o, i', op, na, tg, kd, x⟩ := t
  dsimp only at e1 e2 h0 h9 hle hfd hM hpre hw ⊢
  subst e1
  subst e2
  subst h0
  have hq1 : tq ∈ tg := List.mem_of_head? hfd
  obtain ⟨ci2, m2, ps⟩ := tq
  dsimp only at hM
  have hR1 : (rmD d mc ms).frames + 1 ≤ R.frames ∧ 8 + (mL m2 + 11) + (rmD d mc ms).locals ≤ R.locals := by
    have := mL_le m2
    refine ⟨hRf, ?_⟩
    show 8 + (mL m2 + 11) + 40 * (d + 3) ≤ R.locals
    omega
  have hn : ((st.take na).reverse.map (cv ad zf)).length = na := by
    rw [List.length_map, List.length_reverse, List.length_take]; omega
  have hst : st.map (cv ad zf) = ((st.take na).reverse.map (cv ad zf)).reverse ++ (st.drop na).map (cv ad zf) := by
    rw [← List.map_reverse, List.reverse_reverse]
    conv => lhs; rw [← List.take_append_drop na st, List.map_append]
  have hp : PreS s H (Pcc X sz ad zf D cA (st.take na).reverse ah) ((st.take na).reverse.map (cv ad zf)) := ⟨Pcc_blind, hpre⟩
  have hWr : 2 * (F0 m pc ls (st.map (cv ad zf))).monitorRoom + (((st.drop na).map (cv ad zf)).map fun v => v.category).sum ≤ 8 := lv_room (by rw [cv_stW hz]; exact hw)
  have hls : (F0 m pc ls (st.map (cv ad zf))).locals.size = mL mi := hS.1.2.1
  unfold okC at hok
  rw [Bool.and_eq_true] at hok
  obtain ⟨hkd, hok⟩ := hok
  have hkd := of_decide_eq_true hkd
  match kd, hkd, h9, hok with
  | 4, _, _, hok =>
    have h5 := List.all_eq_true.mp hok _ hq1
    simp only [Bool.and_eq_true, decide_eq_true_eq] at h5
    obtain ⟨⟨⟨h6, h7⟩, h8⟩, -⟩ := h5
    have h10 := okw_of h7
    have hcode := wg (h10 _ (by simp [wdC])) (w := .code (mY m2) (mC m2) (mL m2) (mR m2)) rfl
    have hT : GoodIn gtbl (va_wsS (oN (mO mi)) i' (mY m2) (wsm m2)) := gg_app (fun w hw => by
      simp only [List.mem_cons, List.not_mem_nil, or_false] at hw
      rcases hw with rfl | rfl | rfl <;> exact wg (h10 _ (by simp [wdC])) rfl) (gg_of hcode)
    exact va_runS (Ts := gtbl) ⟨hx, hb, hml, hown, hts⟩ hM (va_cwS na hts hT rfl rfl rfl (okn_of h8) hR1) hp rfl hn hls hst hWr hdg hf
  | 5, _, _, hok =>
    have h5 := List.all_eq_true.mp hok _ hq1
    simp only [Bool.and_eq_true, decide_eq_true_eq] at h5
    obtain ⟨⟨⟨h6, h7⟩, h8⟩, -⟩ := h5
    have h10 := okw_of h7
    have hcode := wg (h10 _ (by simp [wdC])) (w := .code (mY m2) (mC m2) (mL m2) (mR m2)) rfl
    have hlk := wx (h10 _ (by simp [wdC])) (w := .methodLinkNest (oN (mO mi)) i' (mY m2) "OldLadder") rfl
    have hse := wg (h10 _ (by simp [wdC])) (w := .static (mY m2)) rfl
    have hini := wg (h10 _ (by simp [wdC])) (w := .initialized (mY m2).cls) rfl
    exact va_runSN (Ts := gtbl) ⟨hx, hb, hml, hown, hts⟩ hM ⟨va_cnB na hts (gg_of hcode) rfl rfl rfl (hE.1.2.1 _ hlk) (hts _ hini) (okn_of h8) hR1, hts _ hse, trivial⟩ hp rfl hn hls hst hWr hdg hf
  | 0, _, _, hok => have h5 := List.all_eq_true.mp hok _ hq1; simp at h5
  | 1, _, _, hok => have h5 := List.all_eq_true.mp hok _ hq1; simp at h5
  | 2, _, _, hok => have h5 := List.all_eq_true.mp hok _ hq1; simp at h5
  | 3, _, _, hok => have h5 := List.all_eq_true.mp hok _ hq1; simp at h5
  | 6, _, _, hok => have h5 := List.all_eq_true.mp hok _ hq1; simp at h5
  | 7, _, _, hok => have h5 := List.all_eq_true.mp hok _ hq1; simp at h5
  | 8, _, _, hok => simp at hok
  | 9, _, h, _ => exact absurd rfl h
  | k + 10, hk, _, _ => omega
theorem run_P {t : CE} {tq : Nat × Nat × List Nat} (hC : Cx p R s m args meth c mi X sz ad zf D cA) (hS : Sx s mi sz ad zf D cA n0 z0 al ah ls H locs) (hsz : H.size = sz + ah.length) (hdg : decode (mC mi) pc = .ok (.invokespecial i, 3))
    (ht : cE (mO mi) i = some t) (h0 : t.2.2.1 = 1) (h8 : ¬ t.2.2.2.2.2.1 = 8) (hdr : st.drop t.2.2.2.1 = .ref a :: r) (hfd : t.2.2.2.2.1.head? = some tq) (hw : stW r ≤ 8)
    (hM : Met l (mY tq.2.1) (wsm tq.2.1) (rmD d mc ms) (Pcc X sz ad zf D cA (.ref a :: (st.take t.2.2.2.1).reverse) ah) Qc mc ms free) (hRf : d + 4 ≤ R.frames) (hRl : 40 * (d + 4) ≤ R.locals) (hf : cells + mc ≤ R.cells ∧ slots + ms ≤ R.slots) :
    va_Run p l e R s m args below meth c H locs cells slots mc ms (F0 m pc ls (st.map (cv ad zf))) (r.map (cv ad zf)) (Qc ((Value.ref a :: (st.take t.2.2.2.1).reverse).map (cv ad zf)).toArray) free := by
  have hz := hz_of hC
  have hpre := pre_ok (al := al) hC hS hsz (.ref a :: (st.take t.2.2.2.1).reverse)
  obtain ⟨hx, hb, hml, hr, hlo, hown, hnm, hts, hE, hR⟩ := hC
  obtain ⟨-, hok, e1, e2⟩ := cE_of ht
  obtain ⟨o, i', op, na, tg, kd, x⟩ := t
  dsimp only at e1 e2 h0 h8 hdr hfd hM hpre hw ⊢
  subst e1
  subst e2
  subst h0
  have hq1 : tq ∈ tg := List.mem_of_head? hfd
  obtain ⟨ci2, m2, ps⟩ := tq
  dsimp only at hM
  have hR1 : (rmD d mc ms).frames + 1 ≤ R.frames ∧ 8 + (mL m2 + 11) + (rmD d mc ms).locals ≤ R.locals := by
    have := mL_le m2
    refine ⟨hRf, ?_⟩
    show 8 + (mL m2 + 11) + 40 * (d + 3) ≤ R.locals
    omega
  have hlt : na < st.length := by
    rcases Nat.lt_or_ge na st.length with h | h
    · exact h
    · rw [List.drop_eq_nil_of_le h] at hdr; cases hdr
  have hn : ((st.take na).reverse.map (cv ad zf)).length = na := by
    rw [List.length_map, List.length_reverse, List.length_take]; omega
  have hst : st.map (cv ad zf) = ((st.take na).reverse.map (cv ad zf)).reverse ++ .ref (ad a) :: r.map (cv ad zf) := by
    rw [← List.map_reverse, List.reverse_reverse]
    conv => lhs; rw [← List.take_append_drop na st, List.map_append, hdr]
    rfl
  have hp : PreS s H (Pcc X sz ad zf D cA (.ref a :: (st.take na).reverse) ah) (.ref (ad a) :: (st.take na).reverse.map (cv ad zf)) := ⟨Pcc_blind, hpre⟩
  have hWr : 2 * (F0 m pc ls (st.map (cv ad zf))).monitorRoom + ((r.map (cv ad zf)).map fun v => v.category).sum ≤ 8 := lv_room (by rw [cv_stW hz]; exact hw)
  have hls : (F0 m pc ls (st.map (cv ad zf))).locals.size = mL mi := hS.1.2.1
  unfold okC at hok
  rw [Bool.and_eq_true] at hok
  obtain ⟨hkd, hok⟩ := hok
  have hkd := of_decide_eq_true hkd
  match kd, hkd, h8, hok with
  | 6, _, _, hok =>
    have h5 := List.all_eq_true.mp hok _ hq1
    simp only [Bool.and_eq_true, decide_eq_true_eq] at h5
    obtain ⟨⟨⟨h6, h7⟩, h8⟩, ⟨-, h11⟩, h12⟩ := h5
    have h10 := okw_of h7
    have hcode := wg (h10 _ (by simp [wdC])) (w := .code (mY m2) (mC m2) (mL m2) (mR m2)) rfl
    have hlk := wg (h10 _ (by simp [wdC])) (w := .methodLink (oN (mO mi)) i' (mY m2)) rfl
    have hin := wg (h10 _ (by simp [wdC])) (w := .instanceMethod (mY m2)) rfl
    have hini := wg (h10 _ (by simp [wdC])) (w := .initialized (mY m2).cls) rfl
    have hws : wsm m2 = Cond.code (mY m2) (mC m2) (mL m2) none :: gtbl := by unfold wsm; rw [h12]
    exact va_runI (Ts := gtbl) ⟨hx, hb, hml, hown, hts⟩ hM (cwI na hts (gg_of hcode) hws rfl rfl (hts _ hini) (hts _ hlk) (hts _ hin) h11 (okn_of h8) hR1) hp rfl hn hls hst hWr hdg hf
  | 7, _, _, hok =>
    have h5 := List.all_eq_true.mp hok _ hq1
    simp only [Bool.and_eq_true, decide_eq_true_eq] at h5
    obtain ⟨⟨⟨h6, h7⟩, h8⟩, ⟨-, h11⟩, h12⟩ := h5
    have h10 := okw_of h7
    have hcode := wg (h10 _ (by simp [wdC])) (w := .code (mY m2) (mC m2) (mL m2) (mR m2)) rfl
    have hlk := wx (h10 _ (by simp [wdC])) (w := .methodLinkNest (oN (mO mi)) i' (mY m2) "OldLadder") rfl
    have hin := wg (h10 _ (by simp [wdC])) (w := .instanceMethod (mY m2)) rfl
    have hini := wg (h10 _ (by simp [wdC])) (w := .initialized (mY m2).cls) rfl
    have hws : wsm m2 = Cond.code (mY m2) (mC m2) (mL m2) none :: gtbl := by unfold wsm; rw [h12]
    exact va_runIN (Ts := gtbl) ⟨hx, hb, hml, hown, hts⟩ hM ⟨va_cnB na hts (gg_of hcode) hws rfl rfl (hE.1.2.1 _ hlk) (hts _ hini) (okn_of h8) hR1, h11, hts _ hin⟩ hp rfl hn hls hst hWr hdg hf
  | 0, _, _, hok => have h5 := List.all_eq_true.mp hok _ hq1; simp at h5
  | 1, _, _, hok => have h5 := List.all_eq_true.mp hok _ hq1; simp at h5
  | 2, _, _, hok => have h5 := List.all_eq_true.mp hok _ hq1; simp at h5
  | 3, _, _, hok => have h5 := List.all_eq_true.mp hok _ hq1; simp at h5
  | 4, _, _, hok => have h5 := List.all_eq_true.mp hok _ hq1; simp at h5
  | 5, _, _, hok => have h5 := List.all_eq_true.mp hok _ hq1; simp at h5
  | 8, _, h, _ => exact absurd rfl h
  | 9, _, _, hok => simp at hok
  | k + 10, hk, _, _ => omega
end SD2
