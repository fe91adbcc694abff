/-! calls -/
def wsm (mi : Nat) : List Cond := Cond.code (mY mi) (mC mi) (mL mi) (mR mi) :: gtbl
def rmD (d cells slots : Nat) : Room := { frames := d + 3, cells := cells, slots := slots, locals := 40 * (d + 3) }
/-- a method's start and end, in the pure machine's words -/
def Pcc (X : XS) (sz : Nat) (ad : Nat → Nat) (zf : Value) (D : va_G) (cA : Nat → ClassId) (as : List Value) (ah : AH) : Array Value → State → Prop := va_Pc (as.map (cv ad zf)) (fun U => En X sz ad zf D cA U ∧ va_P D vwCl (cw ad zf cA ah) U.heap ∧ U.heap.size = sz + ah.length)
def Qcc (sz : Nat) (ad : Nat → Nat) (zf : Value) (D : va_G) (cA : Nat → ClassId) (v : Option Value) (ah : AH) : Array Value → State → Outcome → State → Prop := fun _ st oc t => oc = .returned (v.map (cv ad zf)) ∧ va_P D vwCl (cw ad zf cA ah) t.heap ∧ va_F (fun q => sz ≤ q) st t
theorem Pcc_blind {X : XS} {sz : Nat} {ad : Nat → Nat} {zf : Value} {D : va_G} {cA : Nat → ClassId} {as : List Value} {ah : AH} : FrameBlind (Pcc X sz ad zf D cA as ah) := by
  intro a U g mk h
  obtain ⟨h1, h2, h3, h4⟩ := h
  exact ⟨h1, h2.calling g mk a, h3, h4⟩
theorem okw_of {ps : List Nat} {ws : List Cond} (h : okw ps ws = true) : ∀ w ∈ ws, w ∈ lw_tbl ∧ (goodWord w = true ∨ isX w = true) := by
  unfold okw at h
  rw [Bool.and_eq_true] at h
  have hl := of_decide_eq_true h.1
  intro w hw
  obtain ⟨k, hk⟩ := List.getElem?_of_mem hw
  have hkl := (List.getElem?_eq_some_iff.mp hk).1
  have h2 : (ps[k]'(by omega), w) ∈ ps.zip ws := by
    refine List.mem_of_getElem? (i := k) ?_
    rw [List.getElem?_zip_eq_some]
    exact ⟨List.getElem?_eq_getElem _, hk⟩
  have h3 := List.all_eq_true.mp h.2 _ h2
  rw [Bool.and_eq_true, Bool.or_eq_true] at h3
  exact ⟨atw_mem h3.1, h3.2⟩
theorem wg {w : Cond} (h : w ∈ lw_tbl ∧ (goodWord w = true ∨ isX w = true)) (hg : goodWord w = true) : w ∈ gtbl := List.mem_filter.mpr ⟨h.1, hg⟩
theorem wx {w : Cond} (h : w ∈ lw_tbl ∧ (goodWord w = true ∨ isX w = true)) (hg : isX w = true) : w ∈ xtbl := List.mem_filter.mpr ⟨h.1, hg⟩
theorem gg_of {mi : Nat} (hc : Cond.code (mY mi) (mC mi) (mL mi) (mR mi) ∈ gtbl) : GoodIn gtbl (wsm mi) := by
  intro w hw
  have h1 : w ∈ gtbl := by
    rcases List.mem_cons.mp hw with rfl | h
    · exact hc
    · exact h
  exact ⟨h1, good_of_word (List.mem_filter.mp h1).2⟩
theorem gg_app {ws : List Cond} {mi : Nat} (h : ∀ w ∈ ws, w ∈ gtbl) (hc : GoodIn gtbl (wsm mi)) : GoodIn gtbl (ws ++ wsm mi) := by
  intro w hw
  rcases List.mem_append.mp hw with h1 | h1
  · exact ⟨h w h1, good_of_word (List.mem_filter.mp (h w h1)).2⟩
  · exact hc w h1
theorem okn_of {y : MethodName} {na : Nat} (h : okn y na = true) : y.cls ≠ "java/lang/invoke/MethodHandle" ∧ y.cls ≠ "java/lang/invoke/VarHandle" ∧ (parseMethodDescriptor y.desc).map (fun d => d.parameters.length) = some na := by
  unfold okn at h
  rw [Bool.and_eq_true, Bool.and_eq_true] at h
  exact ⟨of_decide_eq_true h.1.1, of_decide_eq_true h.1.2, of_decide_eq_true h.2⟩
theorem mL_le (mi : Nat) : mL mi ≤ 20 := by
  unfold mL mE
  rw [List.getD_eq_getElem?_getD]
  cases hm : MT[mi]? with
  | none => show 4 ≤ 20; decide
  | some e =>
    have h1 := List.all_eq_true.mp MT_ok e (List.mem_of_getElem? hm)
    unfold okM at h1
    simp only [Bool.and_eq_true, decide_eq_true_eq] at h1
    exact h1.1.2
section SC
variable {p : Program} {l : Launch} {e : Env} {R : Room} {s : State} {m : MethodId} {args : Array Value} {below : List Frame} {meth : Method} {c : Code} {Q : State → Prop}
variable {mi : Nat} {X : XS} {sz : Nat} {ad : Nat → Nat} {zf : Value} {D : va_G} {cA : Nat → ClassId} {n0 z0 : Nat} {pc : Nat} {al : LV} {st : List Value} {ah : AH} {q : Nat × LV × List Value × AH}
variable {ls : Array Slot} {H : Heap} {locs : List Loc} {cells slots d mc ms i na a ci : Nat} {r : List Value} {Qc : Array Value → State → Outcome → State → Prop} {free : Addr → Prop}
/-- behind a call -/
theorem w_call {st0 rest : List Value} {as2 : Array Value} {v : Option Value} {ah1 : AH} (hr : va_Run p l e R s m args below meth c H locs cells slots mc ms (F0 m pc ls st0) rest (Qcc sz ad zf D cA v ah1 as2) (fun q => sz ≤ q)) (hS : va_S (fun q => sz ≤ q) s.heap H locs)
    (kk : ∀ (H1 : Heap) (locs1 : List Loc), va_P D vwCl (cw ad zf cA ah1) H1 → va_S (fun q => sz ≤ q) s.heap H1 locs1 → W p l e R s m args below meth c H1 locs1 (cells + mc) (slots + ms) Q (F0 m (pc + 3) ls ((v.map (cv ad zf)).toList ++ rest))) : W p l e R s m args below meth c H locs cells slots Q (F0 m pc ls st0) := by
  intro T hT X1
  obtain ⟨w, st₀, t, T', L, h0, X', hL, e1, e2, ⟨hv, hP, hz, hk⟩, stp⟩ := hr T hT X1
  rw [h0] at hz hk
  cases hv
  obtain ⟨t2, a1, b1⟩ := kk T'.heap (locs ++ L) (by rw [e1]; exact hP) ⟨Nat.le_trans hS.1 (by rw [e1]; exact hz), fun q h1 h2 => by rw [e1, hk q (Nat.lt_of_lt_of_le h1 hS.1) h2]; exact hS.2.1 q h1 h2, fun q hq => by
      rcases List.mem_append.mp hq with h | h
      · exact hS.2.2 q h
      · exact hL q h⟩ T' rfl X'
  exact ⟨t2, stp t2 a1, b1⟩
theorem size_eq (hE : Ep sz ad zf) (hS : Sx s mi sz ad zf D cA n0 z0 al ah ls H locs) (hle : H.size ≤ s.heap.size + (ah.length - n0)) : H.size = sz + ah.length := by
  obtain ⟨h1, h2, h3, h4, h5, h6, h7⟩ := hS
  have h8 := h3.1
  rcases Nat.eq_zero_or_pos ah.length with h9 | h9
  · omega
  · have hk : ah.length - 1 < ah.length := by omega
    have h10 := (h2 _ _ (cw_get (ad := ad) (zf := zf) (cA := cA) (List.getElem?_eq_getElem hk))).lt
    dsimp only at h10
    rw [hE.2.2 _ (by omega)] at h10
    omega
theorem pre_ok (hC : Cx p R s m args meth c mi X sz ad zf D cA) (hS : Sx s mi sz ad zf D cA n0 z0 al ah ls H locs) (hsz : H.size = sz + ah.length) (as : List Value) : ∀ U : State, U.heap = H → s.WarmedH U.vm → Pcc X sz ad zf D cA as ah (as.map (cv ad zf)).toArray U := by
  intro U hU hW
  obtain ⟨hx, hb, hml, hr, hlo, hown, hnm, hts, hE, hR⟩ := hC
  refine ⟨rfl, hE.moved hW (locs := locs) (by rw [hU]; exact hS.2.2.1), by rw [hU]; exact hS.2.1, by rw [hU]; exact hsz⟩
theorem run_V {t : CE} {tq : Nat × Nat × List Nat} (hC : Cx p R s m args meth c mi X sz ad zf D cA) (hS : Sx s mi sz ad zf D cA n0 z0 al ah ls H locs) (hsz : H.size = sz + ah.length) (hdg : decode (mC mi) pc = .ok (.invokevirtual i, 3))
    (ht : cE (mO mi) i = some t) (h0 : t.2.2.1 = 0) (hdr : st.drop t.2.2.2.1 = .ref a :: r) (hrc : rcv ah a = some ci) (hfd : t.2.2.2.2.1.find? (fun q => q.1 == ci) = some tq) (hw : stW r ≤ 8)
    (hM : Met l (mY tq.2.1) (wsm tq.2.1) (rmD d mc ms) (Pcc X sz ad zf D cA (.ref a :: (st.take t.2.2.2.1).reverse) ah) Qc mc ms free) (hRf : d + 4 ≤ R.frames) (hRl : 40 * (d + 4) ≤ R.locals) (hf : cells + mc ≤ R.cells ∧ slots + ms ≤ R.slots) :
    va_Run p l e R s m args below meth c H locs cells slots mc ms (F0 m pc ls (st.map (cv ad zf))) (r.map (cv ad zf)) (Qc ((Value.ref a :: (st.take t.2.2.2.1).reverse).map (cv ad zf)).toArray) free := by
  have hz := hz_of hC
  have hpre := pre_ok (al := al) hC hS hsz (.ref a :: (st.take t.2.2.2.1).reverse)
  obtain ⟨hx, hb, hml, hr, hlo, hown, hnm, hts, hE, hR⟩ := hC
  obtain ⟨-, hok, e1, e2⟩ := cE_of ht
  obtain ⟨o, i', op, na, tg, kd, x⟩ := t
  dsimp only at e1 e2 h0 hdr hfd hM hpre ⊢
  subst e1
  subst e2
  subst h0
  have hq1 := List.mem_of_find?_eq_some hfd
  have hq2 := List.find?_some hfd
  rw [beq_iff_eq] at hq2
  obtain ⟨ci2, m2, ps⟩ := tq
  dsimp only at hq2 hM
  subst hq2
  have hR1 : (rmD d mc ms).frames + 1 ≤ R.frames ∧ 8 + (mL m2 + 11) + (rmD d mc ms).locals ≤ R.locals := by
    have := mL_le m2
    refine ⟨hRf, ?_⟩
    show 8 + (mL m2 + 11) + 40 * (d + 3) ≤ R.locals
    omega
  have hlt : na < st.length := by
    rcases Nat.lt_or_ge na st.length with h | h
    · exact h
    · rw [List.drop_eq_nil_of_le h] at hdr; cases hdr
  have hn : ((st.take na).reverse.map (cv ad zf)).length = na := by
    rw [List.length_map, List.length_reverse, List.length_take]; omega
  have hst : st.map (cv ad zf) = ((st.take na).reverse.map (cv ad zf)).reverse ++ .ref (ad a) :: r.map (cv ad zf) := by
    rw [← List.map_reverse, List.reverse_reverse]
    conv => lhs; rw [← List.take_append_drop na st, List.map_append, hdr]
    rfl
  have hrv : ∃ cellB : Cell, H[ad a]? = some cellB ∧ cellB.vm.isStatics = false ∧ s.vm.findClass (cN ci2) = some cellB.cls := by
    unfold rcv at hrc
    split at hrc
    · next hab =>
      obtain rfl := Option.some.inj hrc
      have hi : a - 1000000 < 10 := (Nat.sub_lt_iff_lt_add hab.1).mpr hab.2
      have := vk_recv hE.2.1.1 hi hS.2.2.1
      rw [Nat.add_sub_cancel' hab.1] at this
      exact this
    · obtain ⟨fs, hfs⟩ := rcO_of hrc
      have he := cw_get (ad := ad) (zf := zf) (cA := cA) hfs
      obtain ⟨cq, hcq, -⟩ := hS.2.1 _ _ he
      have := va_recv hE.1.1 hS.2.1 hcq he
      have hcn : cN ci2 = cq.1 := by
        unfold cN
        have : ¬ ci2 = 100 := by
          intro h
          subst h
          cases hcq
        rw [if_neg this]
        dsimp only at hcq
        rw [hcq]
      rw [hcn]
      exact this
  have hp : PreV s H (cN ci2) (ad a) (Pcc X sz ad zf D cA (.ref a :: (st.take na).reverse) ah) ((st.take na).reverse.map (cv ad zf)) := ⟨Pcc_blind, hrv, hpre⟩
  have hWr : 2 * (F0 m pc ls (st.map (cv ad zf))).monitorRoom + ((r.map (cv ad zf)).map fun v => v.category).sum ≤ 8 := lv_room (by rw [cv_stW hz]; exact hw)
  have hls : (F0 m pc ls (st.map (cv ad zf))).locals.size = mL mi := hS.1.2.1
  unfold okC at hok
  rw [Bool.and_eq_true] at hok
  obtain ⟨hkd, hok⟩ := hok
  have hkd := of_decide_eq_true hkd
  match kd, hkd, hok with
  | 0, _, hok =>
    have h5 := List.all_eq_true.mp hok _ hq1
    simp only [Bool.and_eq_true, decide_eq_true_eq] at h5
    obtain ⟨⟨⟨h6, h7⟩, h8⟩, -, h9⟩ := h5
    have h10 := okw_of h7
    have hcode := wg (h10 _ (by simp [wdC])) (w := .code (mY m2) (mC m2) (mL m2) (mR m2)) rfl
    have hT : GoodIn gtbl (wsV (oN (mO mi)) i' (cN ci2) (mY m2) (wsm m2)) := gg_app (fun w hw => by
      simp only [List.mem_cons, List.not_mem_nil, or_false] at hw
      rcases hw with rfl | rfl | rfl | rfl <;> exact wg (h10 _ (by simp [wdC])) rfl) (gg_of hcode)
    exact va_runV (Ts := gtbl) ⟨hx, hb, hml, hown, hts⟩ hM (cwV na hts hT rfl rfl rfl ⟨h9, okn_of h8⟩ hR1) hp rfl hn hls hst hWr hdg hf
  | 1, _, hok =>
    have h5 := List.all_eq_true.mp hok _ hq1
    simp only [Bool.and_eq_true, decide_eq_true_eq] at h5
    obtain ⟨⟨⟨h6, h7⟩, h8⟩, -, h9⟩ := h5
    have h10 := okw_of h7
    have hcode := wg (h10 _ (by simp [wdC])) (w := .code (mY m2) (mC m2) (mL m2) (mR m2)) rfl
    have hlk := wx (h10 _ (by simp [wdC])) (w := .methodLinkNest (oN (mO mi)) i' (mY m2) "OldLadder") rfl
    have hin := wg (h10 _ (by simp [wdC])) (w := .instanceMethod (mY m2)) rfl
    have hse := wg (h10 _ (by simp [wdC])) (w := .selects (cN ci2) (mY m2) (mY m2)) rfl
    have hini := wg (h10 _ (by simp [wdC])) (w := .initialized (cN ci2)) rfl
    exact va_runVN (Ts := gtbl) ⟨hx, hb, hml, hown, hts⟩ hM ⟨va_cnB na hts (gg_of hcode) rfl rfl rfl (hE.1.2.1 _ hlk) (by rw [h9]; exact hts _ hini) (okn_of h8) hR1, hts _ hin, hts _ hse⟩ hp rfl hn hls hst hWr hdg hf
  | 2, _, hok =>
    have h5 := List.all_eq_true.mp hok _ hq1
    simp only [Bool.and_eq_true, decide_eq_true_eq] at h5
    obtain ⟨⟨⟨h6, h7⟩, h8⟩, ⟨-, h9⟩, h11⟩ := h5
    have h10 := okw_of h7
    have hcode := wg (h10 _ (by simp [wdC])) (w := .code (mY m2) (mC m2) (mL m2) (mR m2)) rfl
    have hT : GoodIn gtbl (va_wsU (oN (mO mi)) i' (cN ci2) x.cls x (mY m2) (wsm m2)) := gg_app (fun w hw => by
      simp only [List.mem_cons, List.not_mem_nil, or_false] at hw
      rcases hw with rfl | rfl | rfl | rfl | rfl <;> exact wg (h10 _ (by simp [wdC])) rfl) (gg_of hcode)
    exact va_runU (Ts := gtbl) ⟨hx, hb, hml, hown, hts⟩ hM (va_cwU na hts hT rfl rfl rfl h9 (okn_of h11) hR1) hp rfl hn hls hst hWr hdg hf
  | 3, _, hok =>
    have h5 := List.all_eq_true.mp hok _ hq1
    simp only [Bool.and_eq_true, decide_eq_true_eq] at h5
    obtain ⟨⟨⟨h6, h7⟩, h8⟩, -, h11⟩ := h5
    have h10 := okw_of h7
    have hcode := wg (h10 _ (by simp [wdC])) (w := .code (mY m2) (mC m2) (mL m2) (mR m2)) rfl
    have hde := wx (h10 _ (by simp [wdC])) (w := .declares x) rfl
    have hT : GoodIn gtbl (va_wsU (oN (mO mi)) i' (cN ci2) x.cls x (mY m2) (wsm m2)) := gg_app (fun w hw => by
      simp only [List.mem_cons, List.not_mem_nil, or_false] at hw
      rcases hw with rfl | rfl | rfl | rfl | rfl <;> exact wg (h10 _ (by simp [wdC])) rfl) (gg_of hcode)
    exact va_runU (Ts := gtbl) ⟨hx, hb, hml, hown, hts⟩ hM (va_cwA na hts hT rfl rfl rfl (hE.1.2.1 _ hde) (okn_of h11) hR1) hp rfl hn hls hst hWr hdg hf
  | 4, _, hok => have h5 := List.all_eq_true.mp hok _ hq1; simp at h5
  | 5, _, hok => have h5 := List.all_eq_true.mp hok _ hq1; simp at h5
  | 6, _, hok => have h5 := List.all_eq_true.mp hok _ hq1; simp at h5
  | 7, _, hok => have h5 := List.all_eq_true.mp hok _ hq1; simp at h5
  | 8, _, hok => simp at hok
  | 9, _, hok => simp at hok
  | k + 10, hk, _ => omega
end SC
