theorem zp2_bir {α β : Type} {o : Option α} {p : Option (zSt × Int32)} {f : zSt → Int32 → Option β} {P : zSt × Int32 → Prop} {Q : α → β → Prop} (h : zpc p P) (k : ∀ σ v, P (σ, v) → zp2 o (f σ v) Q) : zp2 o (zbi p f) Q := by
  cases p with
  | none => exact zp2_nr
  | some a => exact k a.1 a.2 (h a rfl)
theorem zp2_bil {α β : Type} {o : Option (zSt × Int32)} {p : Option β} {f : zSt → Int32 → Option α} {P : zSt × Int32 → Prop} {Q : α → β → Prop} (h : zpc o P) (k : ∀ σ v, P (σ, v) → zp2 (f σ v) p Q) : zp2 (zbi o f) p Q := by
  cases o with
  | none => exact zp2_nl
  | some a => exact k a.1 a.2 (h a rfl)
/-- both call, and go on -/
theorem zp2_bii {α β : Type} {o p : Option (zSt × Int32)} {f : zSt → Int32 → Option α} {g : zSt → Int32 → Option β} {P : zSt × Int32 → zSt × Int32 → Prop} {Q : α → β → Prop} (h : zp2 o p P) (k : ∀ σ v μ w, P (σ, v) (μ, w) → zp2 (f σ v) (g μ w) Q) : zp2 (zbi o f) (zbi p g) Q := by
  cases o with
  | none => exact zp2_nl
  | some a =>
    cases p with
    | none => exact zp2_nr
    | some b => exact k a.1 a.2 b.1 b.2 (h a b rfl rfl)
theorem zp2_buu {α β : Type} {o p : Option zSt} {f : zSt → Option α} {g : zSt → Option β} {P : zSt → zSt → Prop} {Q : α → β → Prop} (h : zp2 o p P) (k : ∀ σ μ, P σ μ → zp2 (f σ) (g μ) Q) : zp2 (zbu o f) (zbu p g) Q := by
  cases o with
  | none => exact zp2_nl
  | some a =>
    cases p with
    | none => exact zp2_nr
    | some b => exact k a b (h a b rfl rfl)
theorem zp2_mono {α β : Type} {o : Option α} {p : Option β} {P Q : α → β → Prop} (h : zp2 o p P) (k : ∀ a b, P a b → Q a b) : zp2 o p Q := fun a b e f => k a b (h a b e f)
/-! the battery -/
def zBt (μ : zSt) (v : Int32) : Prop := μ.1 0 7 = 1 ∧ ¬ (μ.1 3 32 &&& 8) = 0 ∧ 32768 ≤ v.toInt ∧ v.toInt < 49152
theorem p_isBat {μ : zSt} {v : Int32} : zpc (fX12_isBattery μ v) (fun r => r.1 = μ ∧ ((zBt μ v ∧ r.2 = 1) ∨ (¬ zBt μ v ∧ r.2 = 0))) := by
  unfold fX12_isBattery fX12_isBattery_37 fX12_isBattery_38
  have c3 : (32768 : Int32).toInt = 32768 := rfl
  have c4 : (49152 : Int32).toInt = 49152 := rfl
  have no : ¬ zBt μ v → zpc (zck (zbo 0) (some (μ, (0 : Int32)))) (fun r => r.1 = μ ∧ ((zBt μ v ∧ r.2 = 1) ∨ (¬ zBt μ v ∧ r.2 = 0))) := fun h => zpc_ck (zpc_some ⟨rfl, Or.inr ⟨h, rfl⟩⟩)
  refine zpc_if (fun q => zpc_ck (zpc_if (fun a => no (fun h => h.2.1 a)) (fun a => zpc_if (fun b => no (fun h => ?_)) (fun b => zpc_if (fun c => no (fun h => ?_)) (fun c => zpc_ck (zpc_some ⟨rfl, Or.inl ⟨⟨q, a, ?_, ?_⟩, rfl⟩⟩)))))) (fun q => no (fun h => q h.1))
  · have := Int32.lt_iff_toInt_lt.mp b; have := h.2.2.1; omega
  · have := Int32.le_iff_toInt_le.mp c; have := h.2.2.2; omega
  · have := Int32.le_iff_toInt_le.mp (z_nlt b); omega
  · have := Int32.lt_iff_toInt_lt.mp (z_nle c); omega
theorem p_batIn {σ : zSt} : zpc (fX2_batteryIsIn σ ) (fun r => r.1 = σ ∧ (((σ.1 1 6 = 1 ∧ ¬ (σ.1 19 3 &&& 8) = 0) ∧ r.2 = 1) ∨ (¬ (σ.1 1 6 = 1 ∧ ¬ (σ.1 19 3 &&& 8) = 0) ∧ r.2 = 0))) := by
  unfold fX2_batteryIsIn fX2_batteryIsIn_24 fX2_batteryIsIn_25
  exact zpc_if (fun q => zpc_ck (zpc_if (fun a => zpc_ck (zpc_some ⟨rfl, Or.inr ⟨fun h => h.2 a, rfl⟩⟩)) (fun a => zpc_ck (zpc_some ⟨rfl, Or.inl ⟨⟨q, a⟩, rfl⟩⟩)))) (fun q => zpc_ck (zpc_some ⟨rfl, Or.inr ⟨fun h => q h.1, rfl⟩⟩))
theorem z_k4 : ∀ i : Fin 256, ((Int32.ofNat i.val &&& 4 = 0 → ((Int32.ofNat i.val) >>> ((2 : Int32) &&& 31)) &&& 1 = 0) ∧ (¬ Int32.ofNat i.val &&& 4 = 0 → ((Int32.ofNat i.val) >>> ((2 : Int32) &&& 31)) &&& 1 = 1)) := by decide +kernel
theorem z_k4' {k : Int32} (h : zr 0 255 k) : (k &&& 4 = 0 → (k >>> ((2 : Int32) &&& 31)) &&& 1 = 0) ∧ (¬ k &&& 4 = 0 → (k >>> ((2 : Int32) &&& 31)) &&& 1 = 1) := by
  obtain ⟨h0, h1⟩ := h
  obtain ⟨i, hi⟩ : ∃ i : Nat, k.toInt = i := ⟨k.toInt.toNat, by omega⟩
  rw [z_ofN hi]
  exact z_k4 ⟨i, by omega⟩
/-- the place of a byte in the battery, on both sides -/
theorem z2_batAt {σ μ : zSt} {v : Int32} (h : zMe σ μ) (hr : zMr σ μ) (h0 : 32768 ≤ v.toInt) (h1 : v.toInt < 49152) : zp2 (fX2_batteryPlace σ v) (fX12_batteryAt μ v) (fun r r' => r.1 = σ ∧ r'.1 = μ ∧ r.2 = r'.2 ∧ zr 0 32767 r.2) := by
  obtain ⟨_, _, _, hk, _, _⟩ := h
  have rk := hr.2.2.2.2.2 32 (by decide) (by decide)
  have kk := z_k4' rk
  unfold fX2_batteryPlace fX12_batteryAt fX12_batteryAt_23
  have e16 := z_16 (v := v) (by omega)
  have g : zgi σ 19 (3 : Int32).toNatClampNeg = μ.1 3 32 := hk
  rw [g]
  have c8 : (32768 : Int32).toInt = 32768 := rfl
  have c6 : (16384 : Int32).toInt = 16384 := rfl
  have ts : (v - 32768).toInt = v.toInt - (32768 : Int32).toInt := z_tsub (a := 32768) (b := 49151) ⟨h0, by omega⟩ (zr_c (lo := 32768) (hi := 32768) (by decide)) (by decide)
  have same : v &&& 16383 = v - 32768 := Int32.toInt_inj.mp (by rw [e16, ts, c8]; omega)
  have rv : zr 0 16383 (v - 32768) := ⟨by omega, by omega⟩
  refine zp2_ckl (zp2_ckr (zp2_ifr (fun q => zp2_some ⟨rfl, rfl, ?_, ?_⟩) (fun q => zp2_some ⟨rfl, rfl, ?_, ?_⟩)))
  · show (v &&& 16383) + (16384 * ((μ.1 3 32 >>> ((2 : Int32) &&& 31)) &&& 1)) = v - 32768 + 0
    rw [kk.1 q, same, show (16384 : Int32) * 0 = 0 by decide]
  · show zr 0 32767 ((v &&& 16383) + (16384 * ((μ.1 3 32 >>> ((2 : Int32) &&& 31)) &&& 1)))
    rw [kk.1 q, same, show (16384 : Int32) * 0 = 0 by decide, Int32.add_zero]
    exact zr_w rv (by decide)
  · show (v &&& 16383) + (16384 * ((μ.1 3 32 >>> ((2 : Int32) &&& 31)) &&& 1)) = v - 32768 + 16384
    rw [kk.2 q, same, show (16384 : Int32) * 1 = 16384 by decide]
  · show zr 0 32767 ((v &&& 16383) + (16384 * ((μ.1 3 32 >>> ((2 : Int32) &&& 31)) &&& 1)))
    rw [kk.2 q, same, show (16384 : Int32) * 1 = 16384 by decide]
    exact zr_add (lo := 0) (hi := 32767) rv (zr_c (lo := 16384) (hi := 16384) (by decide)) (by decide)
theorem z_third {v : Int32} (hv : zr 0 49151 v) : v >>> ((14 : Int32) &&& 31) = v / 16384 ∧ zr 0 2 (v / 16384) ∧ (v / 16384).toInt = v.toInt / 16384 := by
  have v0 := hv.1
  have v1 := hv.2
  have q := z_quo (k := 14) (s := (14 : Int32) &&& 31) v0 rfl
  have d := z_tdiv (y := (16384 : Int32)) 16384 rfl hv (by decide)
  exact ⟨Int32.toInt_inj.mp (by rw [q, d]; rfl), ⟨by omega, by omega⟩, d⟩
/-- a read of both memories -/
theorem z2_read {σ μ : zSt} {x : Int32} (h : zMe σ μ) (hr : zMr σ μ) : zp2 (fX2_read σ x) (fX12_read μ x) (fun r r' => r.1 = σ ∧ r'.1 = μ ∧ r.2 = r'.2) := by
  unfold fX2_read fX12_read
  refine zp2_bvl (fun v ev => zp2_bvr (fun w ew => ?_))
  have e : w = v := by rw [ev, ew]
  subst e
  have hv : zr 0 65535 w := by rw [ew]; exact zr_andr (lo := 0) (hi := 65535) (zr_c (lo := 65535) (hi := 65535) (by decide)) (by decide)
  have v0 := hv.1
  have v1 := hv.2
  have c9 : (49152 : Int32).toInt = 49152 := rfl
  have c8 : (32768 : Int32).toInt = 32768 := rfl
  have c0 : (0 : Int32).toInt = 0 := rfl
  have h' := h
  obtain ⟨hram, hbat, hpg, hk, hc, hf⟩ := h
  have hr' := hr
  obtain ⟨r3, r4, r6, r7, ryp, rpg⟩ := hr
  obtain ⟨d4, d5, d6, d7, db, _⟩ := hc
  refine zp2_if (fun q => ?_) (fun q => ?_)
  · have q1 := Int32.lt_iff_toInt_lt.mp q
    have hw : zr 0 49151 w := ⟨v0, by omega⟩
    obtain ⟨th, tr, td⟩ := z_third hw
    rw [show zgi σ 1 6 = μ.1 0 7 from d6, show zgi σ 1 5 = μ.1 0 6 from d5]
    -- behind the battery
    have bank : 1 ≤ (μ.1 0 6).toInt → ¬ μ.1 0 7 = 0 → zp2 (fX2_read_62 σ w) (if (zgi μ 0 7) = 3 then if 32768 ≤ w then zck (zin 31 1048) (fX12_read_111 μ w (zgi μ 3 (31 : Int32).toNatClampNeg)) else zck (decide (¬ 16384 = 0)) (fX12_read_111 μ w (w / 16384)) else if (zgi μ 0 7) = 1 then if 1024 ≤ w then fX12_read_138 μ w else zbi (fX12_ofBank μ 0 w) (fun σ8 v9 => some (σ8, v9)) else fX12_read_138 μ w) (fun r r' => r.1 = σ ∧ r'.1 = μ ∧ r.2 = r'.2) := fun hb np => by
      have fin : ∀ b : Int32, zr 0 255 b → zp2 (fX2_read_126 σ w b) (zbi (fX12_ofBank μ b w) (fun σ1 v2 => some (σ1, v2))) (fun r r' => r.1 = σ ∧ r'.1 = μ ∧ r.2 = r'.2) := fun b hb2 => by
        intro a c ea ec
        cases q9 : fX12_ofBank μ b w with
        | none => rw [q9] at ec; cases ec
        | some d =>
          rw [q9] at ec
          have ec : some (d.1, d.2) = some c := ec
          cases ec
          exact z2_bank h' hr' hw hb2 hb a d ea q9
      unfold fX2_read_62 fX2_read_86 fX2_read_87 fX2_read_106 fX12_read_111 fX12_read_138
      refine zp2_bvl (fun t et => ?_)
      rw [th] at et
      subst et
      rw [show zgi σ 1 6 = μ.1 0 7 from d6, show zgi μ 0 7 = μ.1 0 7 from rfl]
      have two : (2 : Int32) ≤ w / 16384 ↔ (32768 : Int32) ≤ w := by
        have c2 : (2 : Int32).toInt = 2 := rfl
        constructor
        · intro r; exact Int32.le_iff_toInt_le.mpr (by have := Int32.le_iff_toInt_le.mp r; omega)
        · intro r; exact Int32.le_iff_toInt_le.mpr (by have := Int32.le_iff_toInt_le.mp r; omega)
      have t0 := tr.1
      have t2 := tr.2
      have kt := z_clamp t0
      have pg : zgi σ 19 (w / 16384).toNatClampNeg = zgi μ 3 (29 + w / 16384).toNatClampNeg := by
        have ta : (29 + w / 16384).toInt = (29 : Int32).toInt + (w / 16384).toInt := z_tadd (zr_c (lo := 29) (hi := 29) (by decide)) tr (by decide)
        have c29 : (29 : Int32).toInt = 29 := rfl
        have ka := z_clamp (x := 29 + w / 16384) (by omega)
        show σ.1 19 (w / 16384).toNatClampNeg = μ.1 3 (29 + w / 16384).toNatClampNeg
        rw [hpg _ (by omega), show (29 + w / 16384).toNatClampNeg = 29 + (w / 16384).toNatClampNeg by omega]
      have rpgb : zr 0 255 (zgi μ 3 (29 + w / 16384).toNatClampNeg) := by
        have ta : (29 + w / 16384).toInt = (29 : Int32).toInt + (w / 16384).toInt := z_tadd (zr_c (lo := 29) (hi := 29) (by decide)) tr (by decide)
        have c29 : (29 : Int32).toInt = 29 := rfl
        have ka := z_clamp (x := 29 + w / 16384) (by omega)
        exact rpg _ (by omega) (by omega)
      by_cases p3 : μ.1 0 7 = 3
      · have p1 : ¬ μ.1 0 7 = 1 := fun r => by rw [r] at p3; exact absurd p3 (by decide)
        refine zp2_ifl (fun _ => ?_) (fun r => absurd p3 r)
        refine zp2_ifr (fun _ => ?_) (fun r => absurd p3 r)
        refine zp2_ifl (fun r => zp2_ifr (fun r' => ?_) (fun r' => absurd (two.mp r) r')) (fun r => zp2_ifr (fun r' => absurd (two.mpr r') r) (fun r' => ?_))
        · have e2 : w / 16384 = 2 := Int32.toInt_inj.mp (by have := Int32.le_iff_toInt_le.mp r; have c2 : (2 : Int32).toInt = 2 := rfl; omega)
          refine zp2_ifl (fun _ => zp2_ckl (zp2_ckr (zp2_ifl (fun s => absurd s p1) (fun _ => ?_)))) (fun s => absurd rfl s)
          rw [pg, e2]
          exact fin _ (rpg 31 (by decide) (by decide))
        · refine zp2_ifl (fun s => absurd s (by decide)) (fun _ => zp2_ckr (zp2_ifl (fun s => absurd s p1) (fun _ => ?_)))
          exact fin _ (zr_w tr (by decide))
      · refine zp2_ifl (fun r => absurd r p3) (fun _ => zp2_ifr (fun r => absurd r p3) (fun _ => ?_))
        refine zp2_ifl (fun _ => zp2_ckl ?_) (fun s => absurd rfl s)
        refine zp2_if (fun p1 => ?_) (fun p1 => ?_)
        · refine zp2_if (fun _ => ?_) (fun _ => fin _ (zr_c (by decide)))
          refine zp2_ckr (zp2_ckr ?_)
          rw [pg]
          exact fin _ rpgb
        · refine zp2_ckr (zp2_ckr ?_)
          rw [pg]
          exact fin _ rpgb
    refine zp2_bir p_isBat (fun μ6 v7 p => ?_)
    obtain ⟨p1, p2⟩ := p
    have p1 : μ6 = μ := p1
    subst p1
    by_cases z0 : μ6.1 0 7 = 0
    · -- no paging
      refine zp2_ifl (fun _ => ?_) (fun r => absurd z0 r)
      have nb : v7 = 0 := by
        rcases p2 with ⟨a, _⟩ | ⟨_, b⟩
        · have := a.1; rw [z0] at this; exact absurd this (by decide)
        · exact b
      refine zp2_ifr (fun _ => zp2_ifr (fun _ => ?_) (fun r => absurd z0 r)) (fun r => absurd nb r)
      unfold fX2_read_144 fX2_read_169 fX12_read_80
      rw [show zgi σ 1 4 = zgi μ6 0 5 from d4]
      refine zp2_if (fun _ => zp2_some ⟨rfl, rfl, rfl⟩) (fun r => zp2_ckl (zp2_ckr (zp2_some ⟨rfl, rfl, ?_⟩)))
      have r1 := Int32.lt_iff_toInt_lt.mp (z_nle r)
      have g5 : (zgi μ6 0 5).toInt = (μ6.1 0 5).toInt := rfl
      have b0 := r3.1
      have kw := z_clamp v0
      have t5 : (σ.1 1 3 + w).toInt = (σ.1 1 3).toInt + w.toInt := z_tadd r3 hw (by decide)
      have k5 := z_clamp (x := σ.1 1 3 + w) (by omega)
      have k6 := z_clamp b0
      show σ.1 (ztp (σ.1 1 1)) (σ.1 1 3 + w).toNatClampNeg = μ6.1 2 w.toNatClampNeg &&& 255
      rw [show (σ.1 1 3 + w).toNatClampNeg = (σ.1 1 3).toNatClampNeg + w.toNatClampNeg by omega]
      exact db _ (by omega)
    · have hb1 : 1 ≤ (μ6.1 0 6).toInt := by
        rcases ryp with a | a
        · exact absurd (Int32.toInt_inj.mp (a.trans c0.symm)) z0
        · exact a
      refine zp2_ifl (fun r => absurd r z0) (fun _ => zp2_ifl (fun r => ?_) (fun _ => ?_))
      · have := Int32.le_iff_toInt_le.mp r; exfalso; omega
      · refine zp2_ifl (fun lo => ?_) (fun hi => ?_)
        · have lo1 := Int32.lt_iff_toInt_lt.mp lo
          have nb : v7 = 0 := by
            rcases p2 with ⟨a, _⟩ | ⟨_, b⟩
            · have := a.2.2.1; exfalso; omega
            · exact b
          exact zp2_ifr (fun _ => zp2_ifr (fun r => absurd r z0) (fun _ => bank hb1 z0)) (fun r => absurd nb r)
        · have hi1 := Int32.le_iff_toInt_le.mp (z_nlt hi)
          refine zp2_bil p_batIn (fun σ4 v5 b => ?_)
          obtain ⟨b1, b2⟩ := b
          have b1 : σ4 = σ := b1
          subst b1
          rw [d6, hk] at b2
          rcases p2 with ⟨a, a2⟩ | ⟨a, a2⟩
          · have a2 : v7 = 1 := a2
            have v5e : v5 = 1 := by
              rcases b2 with ⟨_, e⟩ | ⟨n, _⟩
              · exact e
              · exact absurd ⟨a.1, a.2.1⟩ n
            refine zp2_ifl (fun r => absurd (v5e.symm.trans r) (by decide)) (fun _ => zp2_ifr (fun r => absurd (a2.symm.trans r) (by decide)) (fun _ => ?_))
            refine zp2_bii (z2_batAt h' hr' a.2.2.1 a.2.2.2) (fun σ6 v7' μ10 v11 s => ?_)
            obtain ⟨s1, s2, s3, s4⟩ := s
            have s1 : σ6 = σ4 := s1
            have s2 : μ10 = μ6 := s2
            have s3 : v7' = v11 := s3
            subst s1
            subst s2
            subst s3
            refine zp2_ckl (zp2_ckr (zp2_some ⟨rfl, rfl, ?_⟩))
            have k7 := z_clamp (x := v7') s4.1
            have s42 : v7'.toInt ≤ 32767 := s4.2
            exact hbat _ (by omega)
          · have a2 : v7 = 0 := a2
            have v5e : v5 = 0 := by
              rcases b2 with ⟨y, _⟩ | ⟨_, e⟩
              · exact absurd ⟨y.1, y.2, by omega, by omega⟩ a
              · exact e
            exact zp2_ifl (fun _ => zp2_ifr (fun _ => zp2_ifr (fun r => absurd r z0) (fun _ => bank hb1 z0)) (fun r => absurd a2 r)) (fun r => absurd v5e r)
  · have q1 := Int32.le_iff_toInt_le.mp (z_nlt q)
    have e8 := z_8 v0
    have tr := z_trem (y := (8192 : Int32)) 8192 rfl hv (by decide)
    have same : w &&& 8191 = zrem w 8192 := Int32.toInt_inj.mp (by rw [e8, tr])
    have m0 := Int.emod_nonneg w.toInt (b := 8192) (by decide)
    have m1 := Int.emod_lt_of_pos w.toInt (b := 8192) (by decide)
    have kr := z_clamp (x := zrem w 8192) (by omega)
    rw [same]
    refine zp2_ckl (zp2_ckr (zp2_ckr (zp2_some ⟨rfl, rfl, ?_⟩)))
    exact hram _ (by omega)
theorem z_mm {a : Int32} : (a &&& 65535) &&& 65535 = a &&& 65535 := by rw [Int32.and_assoc, show (65535 : Int32) &&& 65535 = 65535 by decide]
theorem z_rdm {μ : zSt} {a : Int32} : fX12_read μ (a &&& 65535) = fX12_read μ a := by
  unfold fX12_read
  rw [z_mm]
theorem z_rdc {σ : zSt} {a : Int32} : fX2_read σ (a &&& 65535) = fX2_read σ a := by
  unfold fX2_read
  rw [z_mm]
theorem z_wrm {μ : zSt} {a v : Int32} : fX12_write μ (a &&& 65535) v = fX12_write μ a v := by
  unfold fX12_write
  rw [z_mm]
theorem z_wrb {μ : zSt} {a v : Int32} : fX12_write μ a (v &&& 255) = fX12_write μ a v := by
  unfold fX12_write
  rw [Int32.and_assoc, show (255 : Int32) &&& 255 = 255 by decide]
theorem z_p1 (a : Int32) : (((a + 1) &&& 65535) + 1) &&& 65535 = (a + 2) &&& 65535 := by
  refine Int32.toBitVec_inj.1 ?_
  rw [Int32.toBitVec_and, Int32.toBitVec_and, Int32.toBitVec_add, Int32.toBitVec_and, Int32.toBitVec_add, Int32.toBitVec_add]
  refine BitVec.eq_of_toNat_eq ?_
  rw [BitVec.toNat_and, BitVec.toNat_and, BitVec.toNat_add, BitVec.toNat_and, BitVec.toNat_add, BitVec.toNat_add]
  rw [show (65535 : Int32).toBitVec.toNat = 2 ^ 16 - 1 from rfl, show (1 : Int32).toBitVec.toNat = 1 from rfl, show (2 : Int32).toBitVec.toNat = 2 from rfl, Nat.and_two_pow_sub_one_eq_mod, Nat.and_two_pow_sub_one_eq_mod, Nat.and_two_pow_sub_one_eq_mod]
  omega
