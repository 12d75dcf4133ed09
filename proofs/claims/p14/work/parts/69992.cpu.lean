/-! more rows on what is kept -/
theorem zkp_at {α : Type} {g : Nat → α → α} {f : Nat → Nat → α} {f0 : Nat → Nat → α} {k j : Nat} (h0 : f k j = f0 k j) : ∀ {l : List (Nat × Nat × Nat)}, (∀ t ∈ l, t.1 = k → ∀ i : Nat, i < t.2.2 → g t.1 (f t.2.1 i) = f0 t.1 i) → zkp g f k j l = f0 k j
  | [], _ => h0
  | t :: l, h => by
    unfold zkp
    cases q : (Nat.beq t.1 k && Nat.blt j t.2.2) with
    | true =>
      rw [Bool.and_eq_true] at q
      have e : t.1 = k := Nat.eq_of_beq_eq_true q.1
      have z := h t List.mem_cons_self e j (Nat.le_of_ble_eq_true q.2)
      rw [e] at z
      exact z
    | false => exact zkp_at h0 (fun t ht => h t (List.mem_cons_of_mem _ ht))
theorem zpc_fails0' {β : Type} {σ : zSt} {c : Int32} {f : zSt → Int32 → Option β} {Q : β → Prop} (k : ∀ σ1, σ1 = zsi σ 0 0 0 → zpc (f σ1 0) Q) : zpc (zbi (fX12_fails σ 0 c) f) Q := by
  intro b eb
  have h : zp2 (some ()) (zbi (fX12_fails σ 0 c) f) (fun _ b => Q b) := zp2_fails0 (fun σ1 e => fun _ b _ eb => k σ1 e b eb)
  exact h () b rfl eb
theorem zKm_th {μ : zSt} {v : Int32} {k j : Nat} (h : ¬ (k = 0 ∧ j = 0)) : (zKm (zsi μ 0 0 v)).1 k j = (zKm μ).1 k j := by
  have g : ∀ l : List (Nat × Nat × Nat), (∀ t ∈ l, ¬ t.2.1 = 0) → zkp zmb (zsi μ 0 0 v).1 k j l = zkp zmb μ.1 k j l := by
    intro l
    induction l with
    | nil =>
      intro _
      show (zsi μ 0 0 v).1 k j = μ.1 k j
      exact zsi_off h
    | cons t l ih =>
      intro hl
      unfold zkp
      rw [zsi_ne (hl t List.mem_cons_self), ih (fun u hu => hl u (List.mem_cons_of_mem _ hu))]
  exact g zsm (by decide +kernel)
theorem zof_0 {j : Nat} (h : 1 ≤ j) : zof [3, 5, 6, 7, 8, 9] [(0, 0, 0)] 0 1 j = true := by
  show (true && ((!(true) || (Nat.blt 0 1 || Nat.blt j 0)) && true)) = true
  rfl
/-! FRESH STATES; SAVE, RESTORE -/
section ZF4
variable {σ μ s t : zSt} {B : Int × Int × Int} {K : Int}
theorem z_freshN {k c : Int32} {σ4 σ5 σ9 σ1 : zSt} {σ6 : Int32 → zSt} (ec : c = zKd k) (e4 : fX7_clear zS0 = some σ4) (e5 : fX10_clear zS0 = some σ5) (e6 : ∀ v, fX4_clear (zsi (zsi (zsi zS0 6 0 v) 34 10 1) 34 11 1) = some (σ6 v)) (e9 : fJ7_fill_53178_k44 zS0 (-1) = some σ9) (e : fX12_anew (zsi (zsi (zsi (zsi (zsi zS0 0 8 (-1)) 0 3 c) 3 44 0) 3 45 1) 3 46 1) = some σ1) : zNow (0, 0, 0) (zC1 k σ4 σ5 σ6 σ9) σ1 := by
  have a4 := c_clr7 σ4 e4
  have a5 := c_clr10 σ5 e5
  have a6 := c_clr4 (σ6 (if k = 2 then 1 else 0)) (e6 (if k = 2 then 1 else 0))
  have a9 : zQ [44] [] [] [] zS0 σ9 ∧ ∀ j : Nat, j < 32 → σ9.1 44 j = -1 := by
    unfold fJ7_fill_53178_k44 at e9
    exact c_f44 (σ := zS0) zfuel 0 zS0 (by decide) zQ.rf (fun j hj => absurd hj (by omega)) σ9 e9
  have b := m_anewx σ1 e
  have z0 : (0 : Int32).toInt = 0 := rfl
  have k30 : ∀ j, (zC1 k σ4 σ5 σ6 σ9).1 30 j = σ4.1 30 j := fun j => rfl
  have k32 : ∀ j, (zC1 k σ4 σ5 σ6 σ9).1 32 j = σ5.1 32 j := fun j => rfl
  have k34 : ∀ j, (zC1 k σ4 σ5 σ6 σ9).1 34 j = (σ6 (if k = 2 then 1 else 0)).1 34 j := fun j => rfl
  have k40 : ∀ j, (zC1 k σ4 σ5 σ6 σ9).1 40 j = 0 := fun j => (show (zC1 k σ4 σ5 σ6 σ9).1 40 j = σ9.1 40 j from rfl).trans (by rw [a9.1.ro (k := 40) rfl]; rfl)
  have k42 : ∀ j, (zC1 k σ4 σ5 σ6 σ9).1 42 j = 0 := fun j => (show (zC1 k σ4 σ5 σ6 σ9).1 42 j = σ9.1 42 j from rfl).trans (by rw [a9.1.ro (k := 42) rfl]; rfl)
  have k9 : (zC1 k σ4 σ5 σ6 σ9).1 9 5 = 0 := (show (zC1 k σ4 σ5 σ6 σ9).1 9 5 = σ9.1 9 5 from rfl).trans (by rw [a9.1.ro (k := 9) rfl]; rfl)
  have k44 : ∀ j : Nat, j < 32 → (zC1 k σ4 σ5 σ6 σ9).1 44 j = -1 := fun j hj => a9.2 j hj
  have p34 : ∀ j : Nat, 7 ≤ j → j ≤ 11 → (zC1 k σ4 σ5 σ6 σ9).1 34 j = (zsi (zsi (zsi zS0 6 0 (if k = 2 then 1 else 0)) 34 10 1) 34 11 1).1 34 j := fun j h1 h2 => by
    rw [k34, a6.1.o (k := 34) (a := 7) (b := 11) rfl h1 h2]
  have kd : zRk (zC1 k σ4 σ5 σ6 σ9) (zsi (zsi (zsi (zsi (zsi zS0 0 8 (-1)) 0 3 c) 3 44 0) 3 45 1) 3 46 1) := by
    have q : (zsi (zsi (zsi (zsi (zsi zS0 0 8 (-1)) 0 3 c) 3 44 0) 3 45 1) 3 46 1).1 0 3 = zKd k := ec
    have f2 : (if zKd k = 2 then (1 : Int32) else 0) = (if k = 2 then 1 else 0) := by
      unfold zKd
      by_cases h1 : k = 1
      · rw [if_pos h1, h1]
      · rw [if_neg h1]
        by_cases h2 : k = 2
        · rw [if_pos h2, h2]
        · rw [if_neg h2, if_neg h2]; rfl
    have f1 : (if zKd k = 1 then (313 : Int32) else 262) = (if k = 1 then 313 else 262) := by
      unfold zKd
      by_cases h1 : k = 1
      · rw [if_pos h1, h1]
      · rw [if_neg h1, if_neg h1]
        by_cases h2 : k = 2
        · rw [if_pos h2, h2]; rfl
        · rw [if_neg h2]; rfl
    unfold zRk
    rw [q]
    refine ⟨zKd_r k, ?_, ?_, ?_, ?_, ?_⟩
    · rw [f2]; rfl
    · rw [f2]; rfl
    · rw [f2]; rfl
    · rw [f2]
      have z := a6.1.ro (k := 6) rfl
      show (σ6 (if k = 2 then 1 else 0)).1 6 0 = _
      rw [z]
      rfl
    · rw [f1]; rfl
  have pr : zPr (0, 0, 0) (zC1 k σ4 σ5 σ6 σ9) (zsi (zsi (zsi (zsi (zsi zS0 0 8 (-1)) 0 3 c) 3 44 0) 3 45 1) 3 46 1) := by
    refine ⟨fun j hj => ?_, ⟨rfl, rfl, rfl, rfl, fun j hj => ?_, fun hj => ?_⟩, fun j j1 j2 => ?_, ⟨?_, ?_, ?_, ?_, Or.inl rfl⟩, Or.inl ⟨rfl, rfl⟩, ⟨fun i hi => ?_, fun i hi => ?_, fun i hi => ?_, fun i hi => rfl⟩, ⟨⟨?_, ?_, fun j h1 h2 => ?_⟩, ?_⟩, kd, ⟨?_, ?_, ?_, fun k r hk hr => ?_, fun k hk => ?_⟩, ⟨?_, ?_, ?_, ?_, fun j hj => ⟨fun q => ?_, fun _ => k44 j hj⟩⟩, ⟨rfl, rfl, rfl, ?_, ?_⟩⟩
    · show (0 : Int32) = 0 &&& 255
      decide
    · have hj : (j : Int) < (0 : Int32).toInt := hj
      rw [z0] at hj
      exfalso; omega
    · have hj : 0 ≤ (-1 : Int32).toInt := hj
      exact absurd hj (by decide)
    · have j2 : (j : Int) < 16384 * (0 : Int32).toInt := j2
      rw [z0] at j2
      exfalso; omega
    · exact zr_c (x := 0) (by decide)
    · exact zr_c (x := 0) (by decide)
    · exact zr_c (x := 0) (by decide)
    · exact zr_c (x := 0) (by decide)
    · rw [p34 (7 + i) (by omega) (by omega)]
      rcases (show i = 0 ∨ i = 1 ∨ i = 2 ∨ i = 3 ∨ i = 4 by omega) with rfl | rfl | rfl | rfl | rfl <;> rfl
    · rw [k40]
      rcases (show i = 0 ∨ i = 1 ∨ i = 2 ∨ i = 3 ∨ i = 4 ∨ i = 5 ∨ i = 6 ∨ i = 7 by omega) with rfl | rfl | rfl | rfl | rfl | rfl | rfl | rfl <;> rfl
    · rw [k40]
      obtain rfl : i = 0 := by omega
      rfl
    · rw [p34 7 (by decide) (by decide)]; exact zr_c (x := 0) (by decide)
    · rw [p34 8 (by decide) (by decide)]; exact zr_c (x := 0) (by decide)
    · rw [p34 j (by omega) h2]
      rcases (show j = 9 ∨ j = 10 ∨ j = 11 by omega) with rfl | rfl | rfl
      · exact zr_c (x := 0) (by decide)
      · exact zr_c (x := 1) (by decide)
      · exact zr_c (x := 1) (by decide)
    · rw [k40]; exact zr_c (by decide)
    · rw [k42]; rfl
    · exact zr_c (x := 0) (by decide)
    · rw [k42]; exact zr_c (by decide)
    · have hk : (k : Int) < (0 : Int32).toInt := hk
      rw [z0] at hk
      exfalso; omega
    · have hk : (k : Int) < (0 : Int32).toInt := hk
      rw [z0] at hk
      exfalso; omega
    · exact (by decide : 0 ≤ (0 : Int64).toInt)
    · exact (by decide : (0 : Int64).toInt ≤ 0)
    · rw [k9]; exact zr_c (by decide)
    · rw [k9]
      exact (by decide : (0 : Int32).toInt = (0 : Int64).toInt % 32)
    · have q : (j : Int) < (0 : Int64).toInt := q
      rw [show (0 : Int64).toInt = 0 from rfl] at q
      exfalso; omega
    · exact (by decide : 0 ≤ (0 : Int64).toInt)
    · exact (by decide : (0 : Int64).toInt ≤ 0)
  have cx : zCx (zC1 k σ4 σ5 σ6 σ9) (zC1 k σ4 σ5 σ6 σ9) := by
    refine ⟨zQ.rf, ⟨rfl, rfl, ?_, rfl⟩, fun j hj => rfl, fun j hj => rfl, fun j hj => ?_, fun j hj => ?_, ?_, ?_, fun j hj => ?_⟩
    · show (2 : Int32) = if (0 : Int32) = 2 then 0 else 2
      rw [if_neg (by decide)]
    · rw [k30]; exact a4.2 j hj
    · rw [k32]; exact a5.2.1 j hj
    · rw [k32]; exact a5.2.2
    · rw [k34, k34, k34, k34, k34, k34, k34]; exact a6.2
    · show (zsi (zsi zS0 7 4 6) 36 18 57328).1 36 j = _
      by_cases z : j = 18
      · rw [z, zsi_ej, if_pos rfl]
      · rw [zsi_nj z, if_neg z]; rfl
  refine pr.rst cx b.x (fun j hj => ?_)
  rw [b.1.ro (k := 5) rfl]
  show (0 : Int32) = 0 &&& 255
  decide
theorem z_freshA {k c : Int32} {σ4 σ5 σ9 σ1 : zSt} {σ6 : Int32 → zSt} (ec : c = zKd k) (e4 : fX7_clear zS0 = some σ4) (e5 : fX10_clear zS0 = some σ5) (e6 : ∀ v, fX4_clear (zsi (zsi (zsi zS0 6 0 v) 34 10 1) 34 11 1) = some (σ6 v)) (e9 : fJ7_fill_53178_k44 zS0 (-1) = some σ9) (e : fX12_anew (zsi (zsi (zsi (zsi (zsi zS0 0 8 (-1)) 0 3 c) 3 44 0) 3 45 1) 3 46 1) = some σ1) : zAll 0 (zC1 k σ4 σ5 σ6 σ9) σ1 := ⟨⟨(0, 0, 0), Int.le_refl _, z_freshN ec e4 e5 e6 e9 e⟩, z_fresh6 e, fun q => absurd rfl q⟩
/-! save, restore -/
theorem g_save (h : zAll K σ μ) : zp2 (fX11_save σ ) (fX12_save μ ) (zAll K) := by
  unfold fX12_save
  refine zp2_bvr (fun t1 e1 => zp2_ckr (zp2_bvr (fun t2 e2 => ?_)))
  intro a b ea eb
  have ha := k_save a ea
  have hb := m_save' (μ := t2) b eb
  obtain ⟨C, hC, n⟩ := h.1
  obtain ⟨b0, w3, w4, w5, w6, w7, w8, w9⟩ := hb
  have n2 : zNow C σ t2 := by
    rw [e2, e1]
    exact n.kp (zQ.rf (R := []) (A := []) (S := []) (B := [])) (zQ.wi (R := []) (A := [(0, 0, 0), (0, 19, 19)]) (S := []) (B := []) (zQ.wi zQ.rf rfl) rfl) (by decide +kernel) (by decide +kernel)
  have q1 := (zKept_q (σ := σ)).1
  have q2 : zQ [16, 18, 20, 22, 24, 26, 31, 33, 35, 37, 41, 43, 11, 12] [(0, 11, 11)] [39, 47, 49] [] σ a := by rw [ha]; exact zQ.wi q1 rfl
  have nn : zNow C a b := n2.kp q2 b0 (by decide +kernel) (by decide +kernel)
  have fr : zQ [12, 14, 15, 16, 17, 18] [(0, 0, 0), (0, 19, 19)] [13, 19, 20] [] μ b := by
    have f1 : zQ [12, 14, 15, 16, 17, 18] [(0, 0, 0), (0, 19, 19)] [13, 19, 20] [] μ t2 := by rw [e2, e1]; exact zQ.wi (zQ.wi zQ.rf rfl) rfl
    exact f1.tr b0
  refine ⟨⟨C, hC, nn⟩, ?_, fun _ => ⟨C, hC, ?_⟩⟩
  · -- tape and cartridge
    obtain ⟨h1, h2, h3, h4⟩ := h.2.1
    have k1 : a.1 1 = σ.1 1 := q2.ro (k := 1) rfl
    have kt : ∀ w, a.1 (ztp w) = σ.1 (ztp w) := fun w => by
      rcases z_tp13 w with z | z
      · rw [z]; exact q2.ro (k := 13) rfl
      · rw [z]; exact q2.ro (k := 14) rfl
    have g0 : ∀ j : Nat, 1 ≤ j → j ≤ 18 → b.1 0 j = μ.1 0 j := fun j h1 h2 => fr.o (k := 0) (a := 1) (b := 18) rfl h1 h2
    refine ⟨?_, fun j hj => ?_, ?_, ?_⟩
    · rw [k1, g0 2 (by decide) (by decide)]; exact h1
    · rw [g0 2 (by decide) (by decide)] at hj
      rw [k1, kt, fr.ro (k := 1) rfl]
      exact h2 j hj
    · rw [k1]; exact h3
    · exact h4.keep (fun j _ => by rw [k1]) (kt _) (fun j hj => g0 j (by revert hj; simp only [List.mem_cons, List.not_mem_nil, or_false]; omega) (by revert hj; simp only [List.mem_cons, List.not_mem_nil, or_false]; omega)) (fr.ro (k := 2) rfl)
  · -- what was kept
    have kc : zQ [16, 18, 20, 22, 24, 26, 31, 33, 35, 37, 41, 43, 11, 12] [(0, 11, 11)] [39, 47, 49] [] σ (zKc a) := by rw [ha]; exact zKept_k
    have n3 : zNow C (zKc a) t2 := n2.kp kc (zQ.rf (R := []) (A := []) (S := []) (B := [])) (by decide +kernel) (by decide +kernel)
    have vm : ∀ p ∈ zsm, ∀ i : Nat, i < p.2.2 → ¬ (5 ≤ p.1 ∧ p.1 ≤ 8) → zmb p.1 (b.1 p.2.1 i) = t2.1 p.1 i := by
      unfold zsm
      exact List.forall_mem_cons.2 ⟨fun i hi _ => w9 i hi, List.forall_mem_cons.2 ⟨fun i hi q => absurd ⟨by decide, by decide⟩ q, List.forall_mem_cons.2 ⟨fun i hi q => absurd ⟨by decide, by decide⟩ q, List.forall_mem_cons.2 ⟨fun i hi q => absurd ⟨by decide, by decide⟩ q, List.forall_mem_cons.2 ⟨fun i hi q => absurd ⟨by decide, by decide⟩ q, List.forall_mem_cons.2 ⟨fun i hi _ => w3 i hi, fun _ h => absurd h List.not_mem_nil⟩⟩⟩⟩⟩⟩
    have fm : zQ [5, 6, 7, 8, 12, 14, 15, 16, 17, 18] [(0, 0, 0), (0, 19, 19)] [13, 19, 20] [] t2 (zKm b) := by
      refine ⟨fun k j c => ?_, fun k j c => ?_⟩
      · by_cases q : 5 ≤ k ∧ k ≤ 8
        · rcases (show k = 5 ∨ k = 6 ∨ k = 7 ∨ k = 8 by omega) with rfl | rfl | rfl | rfl <;> exact Bool.noConfusion (show true = false from c)
        · have b0' := (b0.mono (R' := [5, 6, 7, 8, 12, 14, 15, 16, 17, 18]) (A' := [(0, 0, 0), (0, 19, 19)]) (S' := [13, 19, 20]) (B' := []) rfl rfl).1 k j c
          refine zkp_at (k := k) b0' (fun p hp e i hi => ?_)
          have z := vm p hp i hi (fun y => q (by rw [← e]; exact y))
          exact z
      · refine zkp_of (b0.2 k j c) (fun p hp i hi => ?_)
        rw [List.mem_singleton] at hp
        subst hp
        exact w4 i hi
    refine n3.msk fm (fun j hj => ?_) (fun j hj => ?_) (fun j hj => ?_) (fun j hj => ?_)
    · rw [zKm_5 hj, z_nar, w5 j hj, z_nar]
    · rw [zKm_6 hj, z_nar, w6 j hj, z_nar]
    · rw [zKm_7 hj, z_nar, w7 j hj, z_nar]
    · rw [zKm_8 hj, z_nar, w8 j hj, z_nar]
theorem g_restore (h : zAll K σ μ) (hf : σ.1 0 11 = 0 ↔ μ.1 0 19 = 0) : zp2 (fX11_restore σ ) (fX12_restore μ ) (fun r r' => zAll K (zRus r) r') := by
  by_cases q : σ.1 0 11 = 0
  · unfold fX11_restore fX12_restore fX12_restore_13
    refine zp2_ifl (fun _ => ?_) (fun z => absurd q z)
    refine zp2_ifr (fun _ => ?_) (fun z => absurd (hf.mp q) z)
    refine zp2_fails1 (fun t1 e1 => zp2_ifr (fun z => absurd z (by decide)) (fun _ => zp2_some ?_))
    obtain ⟨C, hC, n⟩ := h.1
    rw [e1]
    refine ⟨⟨C, hC, n.th⟩, h.2.1.thr rfl, fun z => absurd q z⟩
  · intro a b ea eb
    have ha := c_restore q a ea
    subst ha
    obtain ⟨C, hC, n⟩ := h.2.2 q
    obtain ⟨C0, hC0, n0⟩ := h.1
    have nq : ¬ μ.1 0 19 = 0 := fun z => q (hf.mpr z)
    obtain ⟨k1, k2⟩ : zQ [] [(0, 0, 0)] [10, 11] [] (zKm μ) b ∧ zQ [3, 5, 6, 7, 8, 9] [(0, 0, 0)] [4, 10, 11] [] μ b := by
      have hb : zpc (fX12_restore μ ) (fun r => zQ [] [(0, 0, 0)] [10, 11] [] (zKm μ) r ∧ zQ [3, 5, 6, 7, 8, 9] [(0, 0, 0)] [4, 10, 11] [] μ r) := by
        unfold fX12_restore fX12_restore_13
        refine zpc_if (fun z => absurd z nq) (fun _ => zpc_fails0' (fun t1 e1 => zpc_if (fun _ => ?_) (fun z => absurd rfl z)))
        refine zpc_mono (zpc_and m_back m_backf) (fun r p => ?_)
        have f0 : zQ [] [(0, 0, 0)] [10, 11] [] (zKm μ) (zKm t1) := by
          rw [e1]
          exact ⟨fun k j c => zKm_th (fun z => by rw [z.1, z.2] at c; cases c), fun k j _ => rfl⟩
        have f1 : zQ [3, 5, 6, 7, 8, 9] [(0, 0, 0)] [4, 10, 11] [] μ t1 := by rw [e1]; exact zQ.wi zQ.rf rfl
        exact ⟨f0.tr (p.1.mono rfl rfl), f1.tr (p.2.mono rfl rfl)⟩
      exact hb b eb
    have nn : zNow C (zBack σ) b := n.kp zBack_k k1 (by decide +kernel) (by decide +kernel)
    have q1 := (zBack_q (σ := σ)).1
    have e0 : (zBack σ).1 0 11 = σ.1 0 11 := q1.o (k := 0) (a := 11) (b := 11) rfl (by decide) (by decide)
    have c1 : (zBack σ).1 1 = σ.1 1 := q1.ro (k := 1) rfl
    have kt : ∀ w, (zBack σ).1 (ztp w) = σ.1 (ztp w) := fun w => by
      rcases z_tp13 w with z | z
      · rw [z]; exact q1.ro (k := 13) rfl
      · rw [z]; exact q1.ro (k := 14) rfl
    have g0 : ∀ j : Nat, 1 ≤ j → b.1 0 j = μ.1 0 j := fun j h1 => k2.o (k := 0) (a := 1) (b := j) (zof_0 h1) h1 (Nat.le_refl _)
    show zAll K (zBack σ) b
    refine zAll.go (B := (K, 0, 0)) h (Int.le_refl _) hC nn ?_ (fun z => ⟨by rw [← e0]; exact z, ?_, q1.rlo (k := 39) rfl, ?_, k2.rlo (k := 13) rfl, g0 3 (by decide)⟩)
    · obtain ⟨h1, h2, h3, h4⟩ := h.2.1
      refine ⟨?_, fun j hj => ?_, ?_, ?_⟩
      · rw [c1, g0 2 (by decide)]; exact h1
      · rw [g0 2 (by decide)] at hj
        rw [c1, kt, k2.ro (k := 1) rfl]
        exact h2 j hj
      · rw [c1]; exact h3
      · exact h4.keep (fun j _ => by rw [c1]) (kt _) (fun j hj => g0 j (by revert hj; simp only [List.mem_cons, List.not_mem_nil, or_false]; omega)) (k2.ro (k := 2) rfl)
    · unfold zsv
      exact List.forall_mem_cons.2 ⟨q1.ro (k := 43) rfl, List.forall_mem_cons.2 ⟨q1.ro (k := 41) rfl, List.forall_mem_cons.2 ⟨q1.ro (k := 37) rfl, List.forall_mem_cons.2 ⟨q1.ro (k := 35) rfl, List.forall_mem_cons.2 ⟨q1.ro (k := 33) rfl, List.forall_mem_cons.2 ⟨q1.ro (k := 31) rfl, List.forall_mem_cons.2 ⟨q1.ro (k := 26) rfl, List.forall_mem_cons.2 ⟨q1.ro (k := 24) rfl, List.forall_mem_cons.2 ⟨q1.ro (k := 22) rfl, List.forall_mem_cons.2 ⟨q1.ro (k := 20) rfl, List.forall_mem_cons.2 ⟨q1.ro (k := 18) rfl, List.forall_mem_cons.2 ⟨q1.ro (k := 16) rfl, fun _ h => absurd h List.not_mem_nil⟩⟩⟩⟩⟩⟩⟩⟩⟩⟩⟩⟩
    · unfold zsm
      exact List.forall_mem_cons.2 ⟨k2.ro (k := 18) rfl, List.forall_mem_cons.2 ⟨k2.ro (k := 17) rfl, List.forall_mem_cons.2 ⟨k2.ro (k := 16) rfl, List.forall_mem_cons.2 ⟨k2.ro (k := 15) rfl, List.forall_mem_cons.2 ⟨k2.ro (k := 14) rfl, List.forall_mem_cons.2 ⟨k2.ro (k := 12) rfl, fun _ h => absurd h List.not_mem_nil⟩⟩⟩⟩⟩⟩
end ZF4
