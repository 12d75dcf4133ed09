def zOwed (L : Nat) (xs : Nat → Int32) : Prop := ∃ σN4 : zSt, ∃ hfN4 : fX7_clear zS0 = some σN4, ∃ σN5 : zSt, ∃ hfN5 : fX10_clear zS0 = some σN5, ∃ σN6 : Int32 → zSt, ∃ hfN6 : ∀ v, fX4_clear (zsi (zsi (zsi zS0 6 0 v) 34 10 1) 34 11 1) = some (σN6 v), ∃ σN9 : zSt, ∃ hfN9 : fJ7_fill_53178_k44 zS0 (-1) = some σN9, ∃ σ1 : zSt, ∃ hf12 : fX12_anew (zsi (zsi (zsi (zsi (zsi zS0 0 8 (-1)) 0 3 (if (zCell L xs) = 1 then (zCell L xs) else if (zCell L xs) = 2 then (zCell L xs) else 0)) 3 44 0) 3 45 1) 3 46 1) = some σ1, ∃ n : Nat, n ≤ 1000 ∧ fLaw xs L n σ1 (fun _ => 0) (zC1 (zCell L xs) σN4 σN5 σN6 σN9) 1 = some 1
theorem zIn_TJ0 : ∀ w ∈ u_ws RJ0 TJ0 4, w ∈ lw_tbl := by decide +kernel
theorem zIn_TJ4 : ∀ w ∈ u_ws RJ4 TJ4 4, w ∈ lw_tbl := by decide +kernel
theorem zIn_i : ∀ w ∈ ([.instantiable RJ0 4, .instantiable RJ4 4, .instantiable RX0 6, .instantiable RX1 6, .instantiable RX2 14, .instantiable RX3 9, .instantiable RX4 6, .instantiable RX5 6, .instantiable RX6 6, .instantiable RX7 2, .instantiable RX8 11, .instantiable RX9 6, .instantiable RX10 8, .instantiable RX11 12, .instantiable RX12 44] : List Cond), w ∈ lw_tbl := by decide +kernel
theorem zIn_m : (.methodLink RL 94 yL_cell) ∈ lw_tbl := by decide +kernel
theorem zKn {b : Nat} {s : State} (hts : ∀ w ∈ lw_tbl, w.before #[Value.ref b] s = true) : ∃ D : va_G, va_K D vwCl [] s := by
  obtain ⟨c0, i0, k0⟩ := u_known (C := RJ0) (T := TJ0) (N := 4) (n := 4) hts zIn_TJ0 (hts _ (zIn_i _ (List.mem_of_getElem? (i := 0) rfl)))
  obtain ⟨c1, i1, k1⟩ := u_known (C := RJ4) (T := TJ4) (N := 4) (n := 4) hts zIn_TJ4 (hts _ (zIn_i _ (List.mem_of_getElem? (i := 1) rfl)))
  obtain ⟨c2, i2, k2⟩ := u_known (C := RX0) (T := TX0) (N := 6) (n := 6) hts (fun w h => wsL_law_in w (inlX0 w h)) (hts _ (zIn_i _ (List.mem_of_getElem? (i := 2) rfl)))
  obtain ⟨c3, i3, k3⟩ := u_known (C := RX1) (T := TX1) (N := 6) (n := 6) hts (fun w h => wsL_law_in w (inlX1 w h)) (hts _ (zIn_i _ (List.mem_of_getElem? (i := 3) rfl)))
  obtain ⟨c4, i4, k4⟩ := u_known (C := RX2) (T := TX2) (N := 14) (n := 14) hts (fun w h => wsL_law_in w (inlX2 w h)) (hts _ (zIn_i _ (List.mem_of_getElem? (i := 4) rfl)))
  obtain ⟨c5, i5, k5⟩ := u_known (C := RX3) (T := TX3) (N := 9) (n := 9) hts (fun w h => wsL_law_in w (inlX3 w h)) (hts _ (zIn_i _ (List.mem_of_getElem? (i := 5) rfl)))
  obtain ⟨c6, i6, k6⟩ := u_known (C := RX4) (T := TX4) (N := 6) (n := 6) hts (fun w h => wsL_law_in w (inlX4 w h)) (hts _ (zIn_i _ (List.mem_of_getElem? (i := 6) rfl)))
  obtain ⟨c7, i7, k7⟩ := u_known (C := RX5) (T := TX5) (N := 6) (n := 6) hts (fun w h => wsL_law_in w (inlX5 w h)) (hts _ (zIn_i _ (List.mem_of_getElem? (i := 7) rfl)))
  obtain ⟨c8, i8, k8⟩ := u_known (C := RX6) (T := TX6) (N := 6) (n := 6) hts (fun w h => wsL_law_in w (inlX6 w h)) (hts _ (zIn_i _ (List.mem_of_getElem? (i := 8) rfl)))
  obtain ⟨c9, i9, k9⟩ := u_known (C := RX7) (T := TX7) (N := 2) (n := 2) hts (fun w h => wsL_law_in w (inlX7 w h)) (hts _ (zIn_i _ (List.mem_of_getElem? (i := 9) rfl)))
  obtain ⟨c10, i10, k10⟩ := u_known (C := RX8) (T := TX8) (N := 11) (n := 11) hts (fun w h => wsL_law_in w (inlX8 w h)) (hts _ (zIn_i _ (List.mem_of_getElem? (i := 10) rfl)))
  obtain ⟨c11, i11, k11⟩ := u_known (C := RX9) (T := TX9) (N := 6) (n := 6) hts (fun w h => wsL_law_in w (inlX9 w h)) (hts _ (zIn_i _ (List.mem_of_getElem? (i := 11) rfl)))
  obtain ⟨c12, i12, k12⟩ := u_known (C := RX10) (T := TX10) (N := 8) (n := 8) hts (fun w h => wsL_law_in w (inlX10 w h)) (hts _ (zIn_i _ (List.mem_of_getElem? (i := 12) rfl)))
  obtain ⟨c13, i13, k13⟩ := u_known (C := RX11) (T := TX11) (N := 12) (n := 12) hts (fun w h => wsL_law_in w (inlX11 w h)) (hts _ (zIn_i _ (List.mem_of_getElem? (i := 13) rfl)))
  obtain ⟨c14, i14, k14⟩ := u_known (C := RX12) (T := TX12) (N := 44) (n := 44) hts (fun w h => wsL_law_in w (inlX12 w h)) (hts _ (zIn_i _ (List.mem_of_getElem? (i := 14) rfl)))
  refine ⟨(fun k => if k = 0 then c0 else if k = 1 then c1 else if k = 2 then c2 else if k = 3 then c3 else if k = 4 then c4 else if k = 5 then c5 else if k = 6 then c6 else if k = 7 then c7 else if k = 8 then c8 else if k = 9 then c9 else if k = 10 then c10 else if k = 11 then c11 else if k = 12 then c12 else if k = 13 then c13 else c14, fun k => if k = 0 then i0 else if k = 1 then i1 else if k = 2 then i2 else if k = 3 then i3 else if k = 4 then i4 else if k = 5 then i5 else if k = 6 then i6 else if k = 7 then i7 else if k = 8 then i8 else if k = 9 then i9 else if k = 10 then i10 else if k = 11 then i11 else if k = 12 then i12 else if k = 13 then i13 else i14), ?_, fun k q h => by simp at h⟩
  intro k q hq
  match k, hq with
  | 0, hq => cases hq; exact k0
  | 1, hq => cases hq; exact k1
  | 2, hq => cases hq; exact k2
  | 3, hq => cases hq; exact k3
  | 4, hq => cases hq; exact k4
  | 5, hq => cases hq; exact k5
  | 6, hq => cases hq; exact k6
  | 7, hq => cases hq; exact k7
  | 8, hq => cases hq; exact k8
  | 9, hq => cases hq; exact k9
  | 10, hq => cases hq; exact k10
  | 11, hq => cases hq; exact k11
  | 12, hq => cases hq; exact k12
  | 13, hq => cases hq; exact k13
  | 14, hq => cases hq; exact k14
  | k + 15, hq => simp [vwCl] at hq
theorem whole_start {p : Program} {e : Env} {s : State} {m : MethodId} {below : List Frame} {meth : Method} {c : Code} (l : Launch) (hst : l.stackTraces = false) {b L : Nat} {xs : Nat → Int32} (hO : zOwed L xs) (C0 : lw_At p s m meth c b L xs) : W p l e room_1 s m #[Value.ref b] below meth c s.heap [] 0 0 (lw_Z below #[Value.ref b] s) (entryFrame m ([Value.ref b] : List Value).toArray 8) := by
  obtain ⟨hx, hb, hr, hml, hown, hts, hX, hbl, hlocks, hgv⟩ := id C0
  have hbA : ¬ (fun q : Nat => s.heap.size ≤ q) b := Nat.not_le.mpr hbl
  obtain ⟨D, hK⟩ := zKn hts
  obtain ⟨st, hT⟩ := zT_is (A := fun q : Nat => s.heap.size ≤ q) (zbR hgv) (fun w h => hts w (List.mem_append_right _ h)) (fun a h => Nat.not_le.mpr h)
  have hC : zC p m c cL_law 8 s #[Value.ref b] wzL_law RL meth ret := ⟨hx, hb, hml, hown, fun w h => (List.mem_cons.mp h).elim (fun h => by rw [h]; exact hts _ zIn_m) (fun h => hts _ (wsL_law_in w h)), hr, hlocks⟩
  obtain ⟨σN4, hfN4, σN5, hfN5, σN6, hfN6, σN9, hfN9, σ1, hf12, n, hn, hf⟩ := hO
  exact bLaw_start hC hst hX hbl hbA hK hT σN4 hfN4 σN5 hfN5 σN6 hfN6 σN9 hfN9 σ1 hf12 n hn hf
set_option maxHeartbeats 4000000 in
theorem lw_walk (zOw : ∀ (L : Nat) (xs : Nat → Int32), L ≤ 513 → zOwed L xs) (l : Launch) (hst : l.stackTraces = false) (b : Addr) (xs : List Int32) : MetFree l x (headSpec (Jvm.Cond.code x code maxLocals ret :: tables_1) room_1) (lw_P b xs) (fun _ _ _ _ _ => True) lw_Q := by
  refine MetFree.of_bodyS (code := code) (maxLocals := maxLocals) (ret := ret) (by decide) ?_ ?_
  · intro args s m h hn
    obtain ⟨meth, c, h1, h2, h3, h4, h5, h6, -, -⟩ := Cond.code_spec hn (atoms_spec (ws := Jvm.Cond.code x code maxLocals ret :: tables_1) h _ List.mem_cons_self)
    exact ⟨meth, c, h1, h2, h3, h4, h5, h6⟩
  · intro p e s m args below meth c s₁ B hml0 hP _
    obtain ⟨rfl, hx, hbd, hgv⟩ := hP
    obtain ⟨scr, harrAt, hlist, hof, hsmall⟩ := hx
    obtain ⟨hcb, hkn, -, -⟩ := State.arrayAt?_spec harrAt
    have hown : s.vm.findClass R_law = some m.cls := findClass_of_methodNamed B.named
    have hts0 : ∀ c ∈ (Jvm.Cond.code x code maxLocals ret :: tables_1), c.before #[Value.ref b] s = true := atoms_spec (ws := Jvm.Cond.code x code maxLocals ret :: tables_1) B.pre
    have hts : ∀ w ∈ lw_tbl, w.before #[Value.ref b] s = true := k2_hts_sels lw_privs (fun w hw => hts0 w (List.mem_cons_of_mem _ hw)) lw_privs_ok
    have hml : c.maxLocals = 8 := B.maxLocals_eq (hts0 _ List.mem_cons_self)
    have X₀ : Stand p l e room_1 s m #[Value.ref b] below meth c s₁ [] 0 0 := Stand.of_body B
    have hh0 : s₁.heap = s.heap := by rw [B.state]; rfl
    have hsz : scr.slots.size = xs.length := by rw [← Array.length_toList, hlist, List.length_map]
    have hval : ∀ j : Nat, j < xs.length → scr.slots[j]? = some (.int (xs.getD j 0)) := fun j hj => by
      rw [← Array.getElem?_toList, hlist]
      simp [hj]
    have hbl : b < s.heap.size := (Array.getElem?_eq_some_iff.mp hcb).1
    have hX : va_X b xs.length (fun j => xs.getD j 0) s s.heap := ⟨scr, hcb, hof, hkn, hsz, hval⟩
    have K : W p l e room_1 s m #[Value.ref b] below meth c s₁.heap [] 0 0 (lw_Z below #[Value.ref b] s) (entryFrame m ([Value.ref b] : List Value).toArray 8) := by
      rw [hh0]
      exact whole_start l hst (zOw _ _ hbd) ⟨B.exec, B.bytes, B.returns, hml, hown, hts, hX, hbl, B.notSynchronized, hgv⟩
    obtain ⟨t, a1, o, b1, b2, b3⟩ := K s₁ rfl X₀
    exact ⟨t, o, a1, b1, b2, b3⟩
theorem lw_pre_spec {args : Array Value} {s : State} (h : (Jvm.Cond.and given_1 narrow_1).before args s = true) (hr : rest_1_c.before args s = true) : ∃ (b : Addr) (xs : List Int32), lw_P b xs args s := by
  have hs := flat_of_before _ h
  have hq := flat_of_before _ hr
  have hc : (Cond.count 1).before args s = true := hs _ (by decide +kernel)
  have harr : (Cond.arrayOf (.arg 0) .int).before args s = true := hs _ (by decide +kernel)
  have hle : (Cond.le (.length (.arg 0)) (.int 513)).before args s = true := hs _ (by decide +kernel)
  have hlen : (Cond.isInt (.length (.arg 0))).before args s = true := hq _ (by decide +kernel)
  have hall : (Cond.all (.arg 0) (.isInt (.elem (.arg 0) (.index 0)))).before args s = true := hq _ (by decide +kernel)
  obtain ⟨b, xs, hb, hx⟩ := State.ints_of_pre rfl harr hlen hall
  have hsm : xs.length < 2 ^ 31 := hx.choose_spec.2.2.2
  have hev : (Term.length (.arg 0)).eval args s none [] s = some (.int xs.length.toInt32) := hx.length_eval hb
  have hv := Cond.le_ints hev (show (Term.int 513).eval args s none [] s = some (.int 513) from rfl)
  have hd : xs.length.toInt32 ≤ 513 := by
    simpa [Cond.before, Cond.holds, hv] using hle
  have hN : xs.length ≤ 513 := (Int32.ofNat_le_ofNat hsm (by decide)).mp (show Int32.ofNat xs.length ≤ Int32.ofNat 513 from hd)
  exact ⟨b, xs, Cond.one_arg hc (show args[0]? = some (.ref b) from hb), hx, hN, h⟩
theorem lw_comes (zOw : ∀ (L : Nat) (xs : Nat → Int32), L ≤ 513 → zOwed L xs) (l : Launch) (hst : l.stackTraces = false) : Comes l x (Jvm.Cond.code x code maxLocals ret :: tables_1) room_1 (fun tb e args s => Calls_1 tb e args s ∧ rest_1 tb e args s ∧ Pre_1 tb e args s)
    (fun _ _ args s o t => lw_Q args s o t) := by
  intro p e ha hc hk s m args below hf hfit hheap happ hpre
  obtain ⟨b, xs, hP⟩ := lw_pre_spec hpre.2.2 hpre.2.1
  obtain ⟨k, o, h1, h2, h3, hQ⟩ := lw_walk zOw l hst b xs p e ha hc hk s m args below hf ((Spec.applies_iff_loose hf).mp happ).1 hP trivial
  exact ⟨k, o, h1, h2, h3, hQ⟩
theorem lw_frame {s t : State} {o : Outcome} {args : Array Value} (h : Framed s o t [] 600128 7301064) :
    Framed s o t (fieldLocs frame_1_writes args s ++ arrayLocs frame_1_arrays args s ++ staticLocs frame_1_statics s) 600128 7301064 := h
theorem lw_limb (zOw : ∀ (L : Nat) (xs : Nat → Int32), L ≤ 513 → zOwed L xs) (L : Cond) (hL : ∀ (args : Array Value) (s t : State), L.after args s (.returned (some (.int 1))) t = true) :
    ArmFor flags0 classFile x code maxLocals ret World_1 tables_1 room_1 Calls_1 rest_1 Pre_1
      (fun tb e a s o t => postC L tb e a s o t ∧ Framed s o t (fieldLocs frame_1_writes a s ++ arrayLocs frame_1_arrays a s ++ staticLocs frame_1_statics s) 600128 7301064) := by
  intro l hfl _ _ p e ha hc hk s m args below hf hfit hheap happ hpre
  obtain ⟨k, o, h1, h2, h3, rfl, hF⟩ := lw_comes zOw l (by unfold Launch.stackTraces; rw [hfl]; decide) p e ha hc hk s m args below hf hfit hheap happ hpre
  exact ⟨k, _, h1, h2, h3, hL args s _, lw_frame hF⟩
theorem z_vc (zOw : ∀ (L : Nat) (xs : Nat → Int32), L ≤ 513 → zOwed L xs) : Claimed_1_1 ∧ Claimed_1_2 := ⟨lw_limb zOw limb_1_1 (fun args s t => by simp [limb_1_1, Cond.after, Cond.holds, Cond.value]), lw_limb zOw limb_1_2 (fun args s t => Cond.after_iff.mpr (by
  first | (rw [show limb_1_2 = Cond.eq .result (.int 1) from rfl, Cond.eq_ints (x := 1) (y := 1) rfl rfl]; simp; done) | (simp [limb_1_2, Cond.value, Term.eval]; done)))⟩
