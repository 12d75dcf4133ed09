/-! what holds between two calls: the reference with its counters, the class; n: the tape's length, k: the kind, s: saved -/
def zRM (K n k s : Int) (μ : zSt) : Prop := K ≤ 268435456 ∧ ∃ G, zIM G μ ∧ zK K G ∧ zKS K G ∧ G 0 = n ∧ G 1 = k ∧ G 2 = s
def zRC (n k s : Int) (σ : zSt) : Prop := ∃ H, zIC H σ ∧ H 0 = n ∧ H 2 = k ∧ H 1 = s
theorem zRM.mono {K K1 n k s : Int} {μ : zSt} (h : zRM K n k s μ) (c : K ≤ K1) (c1 : K1 ≤ 268435456) : zRM K1 n k s μ := by
  obtain ⟨_, G, i, a, b, e⟩ := h
  exact ⟨c1, G, i, a.mono c, b.keep c (fun _ _ => rfl), e⟩
theorem zok_bh {α : Type} {q : Option (zHs × Int32)} {f : (Nat → Int64) → zSt → Int32 → Option α} {Q : zHs × Int32 → Prop} {P : α → Prop} (h : zok q Q) (k : ∀ o σ v, Q ((o, σ), v) → zok (f o σ v) P) : zok (zbh q f) P := by
  obtain ⟨a, e, r⟩ := h
  subst e
  exact k a.1.1 a.1.2 a.2 r
theorem zTh_i2 {I : zSt → Prop} {o : Nat → Int64} {q : Option zRi} (h : zok q (zTi I [1, 2])) : zok (zbr q (zhi o zh2)) (fun r => I r.1.2) := by
  refine zok_zbr h (fun r hr => ?_)
  obtain ⟨h1, h2⟩ := hr
  rcases r with x | x
  · show zok (some ((vp_updL o 0 x.2.toInt64, x.1), (0 : Int32))) _
    exact zok_some h1
  · obtain ⟨y, k⟩ := x
    have h2 : k ∈ ([1, 2] : List Nat) := h2
    show zok (zh2 (o, y) k) _
    unfold zh2
    refine zok_if (fun _ => zok_some h1) (fun q1 => zok_if (fun _ => zok_some h1) (fun q2 => ?_))
    rcases List.mem_cons.mp h2 with e | e
    · exact absurd e q1
    · rcases List.mem_cons.mp e with e | e
      · exact absurd e q2
      · cases e
theorem zTh_i1 {n : Nat} {I : zSt → Prop} {o : Nat → Int64} {q : Option zRi} (h : zok q (zTi I [n])) : zok (zbr q (zhi o (zh1 n))) (fun r => I r.1.2) := by
  refine zok_zbr h (fun r hr => ?_)
  obtain ⟨h1, h2⟩ := hr
  rcases r with x | x
  · show zok (some ((vp_updL o 0 x.2.toInt64, x.1), (0 : Int32))) _
    exact zok_some h1
  · obtain ⟨y, k⟩ := x
    have h2 : k ∈ ([n] : List Nat) := h2
    show zok (zh1 n (o, y) k) _
    unfold zh1
    refine zok_if (fun _ => zok_some h1) (fun q1 => ?_)
    rcases List.mem_cons.mp h2 with e | e
    · exact absurd e q1
    · cases e
theorem zTh_l1 {n : Nat} {I : zSt → Prop} {o : Nat → Int64} {q : Option zRl} (h : zok q (zTl I [n])) : zok (zbr q (zhl o (zh1 n))) (fun r => I r.1.2) := by
  refine zok_zbr h (fun r hr => ?_)
  obtain ⟨h1, h2⟩ := hr
  rcases r with x | x
  · show zok (some ((vp_updL o 0 x.2, x.1), (0 : Int32))) _
    exact zok_some h1
  · obtain ⟨y, k⟩ := x
    have h2 : k ∈ ([n] : List Nat) := h2
    show zok (zh1 n (o, y) k) _
    unfold zh1
    refine zok_if (fun _ => zok_some h1) (fun q1 => ?_)
    rcases List.mem_cons.mp h2 with e | e
    · exact absurd e q1
    · cases e
theorem zTh_u1 {n : Nat} {I : zSt → Prop} {q : Option zRu} (h : zok q (zTu I [n])) : zok (zbr q (zhu (zh1 n))) (fun r => I r.1) := by
  refine zok_zbr h (fun r hr => ?_)
  obtain ⟨h1, h2⟩ := hr
  rcases r with x | x
  · show zok (some (x, (0 : Int32))) _
    exact zok_some h1
  · obtain ⟨y, k⟩ := x
    have h2 : k ∈ ([n] : List Nat) := h2
    show zok (zh1 n y k) _
    unfold zh1
    refine zok_if (fun _ => zok_some h1) (fun q1 => ?_)
    rcases List.mem_cons.mp h2 with e | e
    · exact absurd e q1
    · cases e
section ZCALLS
variable {K n k s : Int} {μ σ : zSt} {o : Nat → Int64}

theorem m_feed (h : zRM K n k s μ) {x1 : Int32} {x2 x4 x6 : Int64} : zok (fX12_feed μ x1 x2 x4 x6) (fun r => ∃ n1, zRM K n1 k s r.1) := by
  obtain ⟨c, G, i, a, b, e0, e1, e2⟩ := h
  refine zok_mono (s_X12_feed i.E) (fun r q => ?_)
  obtain ⟨⟨G1, i1, g⟩, _⟩ := q
  have g1 : ∀ i, ¬ i = 0 → G1 i = G i := fun i hi => g i (fun r => hi (List.mem_singleton.mp r))
  exact ⟨G1 0, c, G1, i1, a.keep (fun i hi => g1 i (fun r => by subst r; revert hi; decide)), b.keep (Int.le_refl _) (fun i hi => g1 i (fun r => by subst r; revert hi; decide)), rfl, (g1 1 (by decide)).trans e1, (g1 2 (by decide)).trans e2⟩
theorem m_grow (h : zRM K n k s μ) {x1 : Int32} : zok (fX12_grow μ x1) (fun r => ∃ n1, zRM K n1 k s r.1) := by
  obtain ⟨c, G, i, a, b, e0, e1, e2⟩ := h
  refine zok_mono (s_X12_grow i.E) (fun r q => ?_)
  obtain ⟨⟨G1, i1, g⟩, _⟩ := q
  have g1 : ∀ i, ¬ i = 0 → G1 i = G i := fun i hi => g i (fun r => hi (List.mem_singleton.mp r))
  exact ⟨G1 0, c, G1, i1, a.keep (fun i hi => g1 i (fun r => by subst r; revert hi; decide)), b.keep (Int.le_refl _) (fun i hi => g1 i (fun r => by subst r; revert hi; decide)), rfl, (g1 1 (by decide)).trans e1, (g1 2 (by decide)).trans e2⟩
theorem m_tell (h : zRM K n k s μ) {x1 : Int32} : zok (fX12_tell μ x1) (fun r => zRM K n k s r.1) := by
  obtain ⟨c, G, i, a, b, e0, e1, e2⟩ := h
  refine zok_mono (s_X12_tell i.E) (fun r q => ?_)
  obtain ⟨⟨G1, i1, g⟩, _⟩ := q
  have g1 : ∀ i, ¬ i = 9 → G1 i = G i := fun i hi => g i (fun r => hi (List.mem_singleton.mp r))
  exact ⟨c, G1, i1, a.keep (fun i hi => g1 i (fun r => by subst r; revert hi; decide)), b.keep (Int.le_refl _) (fun i hi => g1 i (fun r => by subst r; revert hi; decide)), (g1 0 (by decide)).trans e0, (g1 1 (by decide)).trans e1, (g1 2 (by decide)).trans e2⟩
theorem m_load (h : zRM K n k s μ) : zok (fX12_load μ ) (fun r => ∃ n1 s1, zRM K n1 k s1 r.1) := by
  obtain ⟨c, G, i, a, b, e0, e1, e2⟩ := h
  refine zok_mono (q_load (zLE_of i)) (fun r q => ?_)
  obtain ⟨⟨d, hd, G1, i1, g⟩, _⟩ := q
  have g1 : ∀ i, ¬ i ∈ [0, 2, 3, 4] → G1 i = G i := fun i hi => (g i (fun r => hi (by simp only [List.mem_cons, List.not_mem_nil, or_false] at r ⊢; omega))).trans (zset_ne (fun e => hi (by subst e; decide)))
  have g3 : G1 3 = d := (g 3 (by decide)).trans zset_eq
  exact ⟨G1 0, G1 2, c, G1, i1, a.line (fun i hi => g1 i (fun r => by revert hi r; simp only [List.mem_cons, List.not_mem_nil, or_false]; omega)) (by rw [g3]; exact hd) i1.beat, b.keep (Int.le_refl _) (fun i hi => g1 i (fun r => by revert hi r; simp only [List.mem_cons, List.not_mem_nil, or_false]; omega)), rfl, (g1 1 (by decide)).trans e1, rfl⟩
theorem m_reset (h : zRM K n k s μ) : zok (fX12_reset μ ) (zRM K n k s) := by
  obtain ⟨c, G, i, a, b, e0, e1, e2⟩ := h
  unfold fX12_reset
  refine zok_bs (I := zIM G) (i.wi 0 0 (by decide) (zr_c (lo := 0) (hi := 0) (by decide)) (by decide +kernel)) (fun σ1 e1' i1 => ?_)
  refine zok_bu (s_anewx i1) (fun σ2 i2 => zok_some ?_)
  have g1 : ∀ i, ¬ i = 3 → ¬ i = 4 → (zset (zset G 3 0) 4 0) i = G i := fun i h3 h4 => by rw [zset_ne h4, zset_ne h3]
  have g3 : (zset (zset G 3 0) 4 0) 3 = 0 := by rw [zset_ne (by decide), zset_eq]
  exact ⟨c, _, i2, a.line (fun i hi => g1 i (fun r => by subst r; revert hi; decide) (fun r => by subst r; revert hi; decide)) (Or.inr g3) i2.beat, b.keep (Int.le_refl _) (fun i hi => g1 i (fun r => by subst r; revert hi; decide) (fun r => by subst r; revert hi; decide)), (g1 0 (by decide) (by decide)).trans e0, (g1 1 (by decide) (by decide)).trans e1, (g1 2 (by decide) (by decide)).trans e2⟩
theorem m_step (h : zRM K n k s μ) (hb : K + 2100000 ≤ 268435456) {x1 : Int32} : zok (fX12_step μ x1) (fun r => zRM (K + 2100000) n k s r.1) := by
  obtain ⟨c, G, i, a, b, e0, e1, e2⟩ := h
  refine zok_mono (s_X12_step i a (by omega)) (fun r q => ?_)
  obtain ⟨⟨G1, i1, a1, g⟩, _⟩ := q
  exact ⟨hb, G1, i1, a1.mono (by omega), b.keep (by omega) (fun i hi => g i (by revert hi; simp only [List.mem_cons, List.not_mem_nil, or_false]; omega)), (g 0 (by decide)).trans e0, (g 1 (by decide)).trans e1, (g 2 (by decide)).trans e2⟩
theorem m_picture (h : zRM K n k s μ) (hb : K + 2100000 ≤ 268435456) {x1 : Int32} : zok (fX12_picture μ x1) (fun r => zRM (K + 2100000) n k s r.1) := by
  obtain ⟨c, G, i, a, b, e0, e1, e2⟩ := h
  refine zok_mono (s_X12_picture i a hb) (fun r q => ?_)
  obtain ⟨⟨G1, i1, a1, g⟩, _⟩ := q
  exact ⟨hb, G1, i1, a1, b.keep (by omega) (fun i hi => g i (by revert hi; simp only [List.mem_cons, List.not_mem_nil, or_false]; omega)), (g 0 (by decide)).trans e0, (g 1 (by decide)).trans e1, (g 2 (by decide)).trans e2⟩
theorem m_save (h : zRM K n k s μ) : zok (fX12_save μ ) (zRM K n k 1) := by
  obtain ⟨c, G, i, a, b, e0, e1, e2⟩ := h
  unfold fX12_save
  refine zok_bs (I := zIM G) (i.wi 0 0 (by decide) (zr_c (lo := 0) (hi := 0) (by decide)) (by decide +kernel)) (fun σ1 _ i1 => ?_)
  refine zok_ck rfl ?_
  refine zok_bs (I := zIM (zset G 2 1)) (zIM.wg (v := 1) 2 i1 (by decide) (by decide) zr_any (by decide +kernel)) (fun σ2 _ i2 => ?_)
  refine zok_mono (q_save_12 zfuel (G0 := zset G 2 1) (x1 := 0) i2 (zr_c (by decide)) ⟨fun _ _ _ _ => rfl, fun l => absurd l (by decide), fun l => absurd l (by decide), fun l => absurd l (by decide)⟩ (by decide)) (fun r q => ?_)
  obtain ⟨G1, j1, g0, g6, g7, g8, g102, g105, g106⟩ := q
  have v : ∀ i, ¬ i = 2 → zset G 2 1 i = G i := fun i hi => zset_ne hi
  rw [v 3 (by decide)] at g6
  rw [v 4 (by decide)] at g7
  rw [v 5 (by decide)] at g8
  rw [v 100 (by decide)] at g102
  rw [v 104 (by decide)] at g105
  rw [v 101 (by decide)] at g106
  have w : ∀ i, ¬ i ∈ [2, 6, 7, 8, 102, 105, 106] → G1 i = G i := fun i hi => by
    simp only [List.mem_cons, List.not_mem_nil, or_false, not_or] at hi
    obtain ⟨h2, h6, h7, h8, h102, h105, h106⟩ := hi
    exact (g0 i h6 h7 h8 h102 h105 h106).trans (v i h2)
  have a2 : zK K G1 := a.keep (fun i hi => w i (fun r => by revert hi r; simp only [List.mem_cons, List.not_mem_nil, or_false]; omega))
  refine ⟨c, G1, j1, a2, ?_, (w 0 (by decide)).trans e0, (w 1 (by decide)).trans e1, (g0 2 (by decide) (by decide) (by decide) (by decide) (by decide) (by decide)).trans zset_eq⟩
  obtain ⟨⟨d1, d2, d3, d4, d5, d6, d7, d8⟩, f1, f2, f3, f4, f5⟩ := a
  unfold zKS
  rw [g6, g7, g8, g102, g105, g106, zln_c (w 1 (by decide))]
  exact ⟨by omega, by omega, by omega, d5, d6, by omega, d8⟩
theorem m_restore (h : zRM K n k s μ) : zok (fX12_restore μ ) (zRM K n k s) := by
  obtain ⟨c, G, i, a, b, e0, e1, e2⟩ := h
  have fin : ∀ μ1, zIM G μ1 → zRM K n k s μ1 := fun μ1 i1 => ⟨c, G, i1, a, b, e0, e1, e2⟩
  unfold fX12_restore
  refine zok_if (fun q1 => ?_) (fun q1 => ?_)
  · unfold fX12_restore_13
    refine zok_fails1 (I := zIM G) (i.wi 0 0 (by decide) zr_any (by decide +kernel)) (fun σ1 _ i1 => ?_)
    exact zok_if (fun q => absurd q (by decide)) (fun _ => zok_some (fin _ i1))
  · unfold fX12_restore_13
    refine zok_fails0 (I := zIM G) (i.wi 0 0 (by decide) zr_any (by decide +kernel)) (fun σ1 _ i1 => ?_)
    refine zok_if (fun _ => ?_) (fun q => absurd rfl q)
    refine zok_mono (q_restore_23 zfuel (G0 := G) (x1 := 0) i1 (zr_c (by decide)) ⟨fun _ _ _ _ => rfl, fun l => absurd l (by decide), fun l => absurd l (by decide), fun l => absurd l (by decide)⟩ (by decide)) (fun r q => ?_)
    obtain ⟨G1, j1, g0, g3, g4, g5, g100, g104, g101⟩ := q
    have w : ∀ i, ¬ i ∈ [3, 4, 5, 100, 104, 101] → G1 i = G i := fun i hi => by
      simp only [List.mem_cons, List.not_mem_nil, or_false, not_or] at hi
      obtain ⟨h3, h4, h5, h100, h104, h101⟩ := hi
      exact g0 i h3 h4 h5 h100 h104 h101
    have b2 : zKS K G1 := b.keep (Int.le_refl _) (fun i hi => w i (fun r => by revert hi r; simp only [List.mem_cons, List.not_mem_nil, or_false]; omega))
    refine ⟨c, G1, j1, ?_, b2, (w 0 (by decide)).trans e0, (w 1 (by decide)).trans e1, (w 2 (by decide)).trans e2⟩
    obtain ⟨⟨d1, d2, d3, d4, d5, d6, d7, d8⟩, f1, f2, f3, f4, f5⟩ := a
    obtain ⟨p1, p2, p3, p4, p5, p6, p7⟩ := b
    unfold zK zGJ
    rw [g3, g4, g5, g100, g104, g101, w 103 (by decide), zln_c (w 1 (by decide))]
    exact ⟨⟨by omega, d2, by omega, by omega, p4, p5, by omega, p7⟩, by omega, f2, by omega, by omega, by omega⟩
theorem m_patch (h : zRM K n k s μ) {x1 : Int32} {x2 : Int64} : zok (fX12_patch μ x1 x2) (zRM K n k s) := by
  obtain ⟨c, G, i, a, b, e⟩ := h
  exact zok_mono (s_X12_patch i) (fun r q => ⟨c, G, q, a, b, e⟩)
theorem m_card (h : zRM K n k s μ) {x1 : Int32} : zok (fX12_card μ x1) (fun r => zRM K n k s r.1) := by
  obtain ⟨c, G, i, a, b, e⟩ := h
  exact zok_mono (s_X12_card i) (fun r q => ⟨c, G, q.1, a, b, e⟩)
theorem m_pause (h : zRM K n k s μ) : zok (fX12_pause μ ) (fun r => zRM K n k s r.1) := by
  obtain ⟨c, G, i, a, b, e⟩ := h
  exact zok_mono (s_X12_pause i) (fun r q => ⟨c, G, q.1, a, b, e⟩)
theorem m_press (h : zRM K n k s μ) {x1 : Int32} {x2 : Int32} : zok (fX12_press μ x1 x2) (zRM K n k s) := by
  obtain ⟨c, G, i, a, b, e⟩ := h
  exact zok_mono (s_X12_press i) (fun r q => ⟨c, G, q, a, b, e⟩)
theorem m_start (h : zRM K n k s μ) {x1 : Int32} (h_x1 : zr (0) (1) x1) : zok (fX12_start μ x1) (zRM K n k s) := by
  obtain ⟨c, G, i, a, b, e⟩ := h
  exact zok_mono (s_X12_start i h_x1) (fun r q => ⟨c, G, q, a, b, e⟩)
theorem m_line (h : zRM K n k s μ) {x1 : Int32} {x2 : Int32} (h_x2 : zr (0) (1) x2) : zok (fX12_line μ x1 x2) (zRM K n k s) := by
  obtain ⟨c, G, i, a, b, e⟩ := h
  exact zok_mono (s_X12_line i h_x2) (fun r q => ⟨c, G, q, a, b, e⟩)
theorem m_plan (h : zRM K n k s μ) {x1 : Int32} {x2 : Int32} {x3 : Int32} : zok (fX12_plan μ x1 x2 x3) (fun r => zRM K n k s r.1) := by
  obtain ⟨c, G, i, a, b, e⟩ := h
  exact zok_mono (s_X12_plan i) (fun r q => ⟨c, G, q.1, a, b, e⟩)
theorem m_text (h : zRM K n k s μ) {x1 : Int32} : zok (fX12_text μ x1) (fun r => zRM K n k s r.1) := by
  obtain ⟨c, G, i, a, b, e⟩ := h
  exact zok_mono (s_X12_text i) (fun r q => ⟨c, G, q.1, a, b, e⟩)
theorem m_stop (h : zRM K n k s μ) {x1 : Int32} {x2 : Int32} (h_x2 : zr (0) (1) x2) : zok (fX12_stop μ x1 x2) (fun r => zRM K n k s r.1) := by
  obtain ⟨c, G, i, a, b, e⟩ := h
  exact zok_mono (s_X12_stop i h_x2) (fun r q => ⟨c, G, q.1, a, b, e⟩)
theorem m_register (h : zRM K n k s μ) {x1 : Int32} : zok (fX12_register μ x1) (fun r => zRM K n k s r.1) := by
  obtain ⟨c, G, i, a, b, e⟩ := h
  exact zok_mono (s_X12_register i) (fun r q => ⟨c, G, q.1, a, b, e⟩)
theorem m_set (h : zRM K n k s μ) {x1 : Int32} {x2 : Int32} : zok (fX12_set μ x1 x2) (zRM K n k s) := by
  obtain ⟨c, G, i, a, b, e⟩ := h
  exact zok_mono (s_X12_set i) (fun r q => ⟨c, G, q, a, b, e⟩)
theorem m_peek (h : zRM K n k s μ) {x1 : Int32} : zok (fX12_peek μ x1) (fun r => zRM K n k s r.1) := by
  obtain ⟨c, G, i, a, b, e⟩ := h
  exact zok_mono (s_X12_peek i) (fun r q => ⟨c, G, q.1, a, b, e⟩)
theorem m_poke (h : zRM K n k s μ) {x1 : Int32} {x2 : Int32} : zok (fX12_poke μ x1 x2) (zRM K n k s) := by
  obtain ⟨c, G, i, a, b, e⟩ := h
  exact zok_mono (s_X12_poke i) (fun r q => ⟨c, G, q, a, b, e⟩)
theorem m_in (h : zRM K n k s μ) {x1 : Int32} : zok (fX12_in μ x1) (fun r => zRM K n k s r.1) := by
  obtain ⟨c, G, i, a, b, e⟩ := h
  exact zok_mono (s_X12_in i) (fun r q => ⟨c, G, q.1, a, b, e⟩)
theorem m_out (h : zRM K n k s μ) {x1 : Int32} {x2 : Int32} : zok (fX12_out μ x1 x2) (zRM K n k s) := by
  obtain ⟨c, G, i, a, b, e⟩ := h
  exact zok_mono (s_X12_out i) (fun r q => ⟨c, G, q, a, b, e⟩)
theorem m_battery (h : zRM K n k s μ) {x1 : Int32} : zok (fX12_battery μ x1) (fun r => zRM K n k s r.1) := by
  obtain ⟨c, G, i, a, b, e⟩ := h
  exact zok_mono (s_X12_battery i) (fun r q => ⟨c, G, q.1, a, b, e⟩)
theorem m_wipe (h : zRM K n k s μ) : zok (fX12_wipe μ ) (zRM K n k s) := by
  obtain ⟨c, G, i, a, b, e⟩ := h
  exact zok_mono (s_X12_wipe i) (fun r q => ⟨c, G, q, a, b, e⟩)
theorem m_video (h : zRM K n k s μ) {x1 : Int32} : zok (fX12_video μ x1) (fun r => zRM K n k s r.1) := by
  obtain ⟨c, G, i, a, b, e⟩ := h
  exact zok_mono (s_X12_video i) (fun r q => ⟨c, G, q.1, a, b, e⟩)
theorem m_chip (h : zRM K n k s μ) {x1 : Int32} : zok (fX12_chip μ x1) (fun r => zRM K n k s r.1) := by
  obtain ⟨c, G, i, a, b, e⟩ := h
  exact zok_mono (s_X12_chip i) (fun r q => ⟨c, G, q.1, a, b, e⟩)
theorem m_dot (h : zRM K n k s μ) {x1 : Int32} {x2 : Int32} : zok (fX12_dot μ x1 x2) (fun r => zRM K n k s r.1) := by
  obtain ⟨c, G, i, a, b, e⟩ := h
  exact zok_mono (s_X12_dot i) (fun r q => ⟨c, G, q.1, a, b, e⟩)
theorem m_row (h : zRM K n k s μ) {x1 : Int32} : zok (fX12_row μ x1) (fun r => zRM K n k s r.1) := by
  obtain ⟨c, G, i, a, b, e⟩ := h
  exact zok_mono (s_X12_row i) (fun r q => ⟨c, G, q.1, a, b, e⟩)
theorem m_hear (h : zRM K n k s μ) : zok (fX12_hear μ ) (fun r => zRM K n k s r.1) := by
  obtain ⟨c, G, i, a, b, e⟩ := h
  exact zok_mono (s_X12_hear i) (fun r q => ⟨c, G, q.1, a, b, e⟩)
theorem m_mix (h : zRM K n k s μ) : zok (fX12_mix μ ) (fun r => zRM K n k s r.1) := by
  obtain ⟨c, G, i, a, b, e⟩ := h
  exact zok_mono (s_X12_mix i) (fun r q => ⟨c, G, q.1, a, b, e⟩)
theorem m_wave (h : zRM K n k s μ) {x1 : Int32} : zok (fX12_wave μ x1) (fun r => zRM K n k s r.1) := by
  obtain ⟨c, G, i, a, b, e⟩ := h
  exact zok_mono (s_X12_wave i) (fun r q => ⟨c, G, q.1, a, b, e⟩)
theorem m_sound (h : zRM K n k s μ) {x1 : Int32} : zok (fX12_sound μ x1) (fun r => zRM K n k s r.1) := by
  obtain ⟨c, G, i, a, b, e⟩ := h
  exact zok_mono (s_X12_sound i) (fun r q => ⟨c, G, q.1, a, b, e⟩)
theorem m_trace (h : zRM K n k s μ) {x1 : Int32} : zok (fX12_trace μ x1) (fun r => zRM K n k s r.1) := by
  obtain ⟨c, G, i, a, b, e⟩ := h
  exact zok_mono (s_X12_trace i) (fun r q => ⟨c, G, q.1, a, b, e⟩)
theorem m_look (h : zRM K n k s μ) {x1 : Int32} : zok (fX12_look μ x1) (fun r => zRM K n k s r.1) := by
  obtain ⟨c, G, i, a, b, e⟩ := h
  exact zok_mono (s_X12_look i) (fun r q => ⟨c, G, q.1, a, b, e⟩)
theorem l_feed (h : zRC n k s σ) {x1 : Int32} {x2 : Int64} {x4 : Int64} {x6 : Int64} : zok (fL_feed o σ x1 x2 x4 x6) (fun r => ∃ n1, zRC n1 k s r.1.2) := by
  obtain ⟨H, i, e0, e1, e2⟩ := h
  unfold fL_feed
  exact zok_mono (zTh_i2 (s_X11_feed i.E)) (fun r q => by obtain ⟨H1, i1, g⟩ := q; exact ⟨H1 0, H1, i1, rfl, (g 2 (by decide)).trans e1, (g 1 (by decide)).trans e2⟩)
theorem l_grow (h : zRC n k s σ) {x1 : Int32} : zok (fL_grow o σ x1) (fun r => ∃ n1, zRC n1 k s r.1.2) := by
  obtain ⟨H, i, e0, e1, e2⟩ := h
  unfold fL_grow
  exact zok_mono (zTh_i2 (s_X11_grow i.E)) (fun r q => by obtain ⟨H1, i1, g⟩ := q; exact ⟨H1 0, H1, i1, rfl, (g 2 (by decide)).trans e1, (g 1 (by decide)).trans e2⟩)
theorem l_patch (h : zRC n k s σ) {x1 : Int32} {x2 : Int64} : zok (fL_patch σ x1 x2) (fun r => zRC n k s r.1) := by
  obtain ⟨H, i, e0, e1, e2⟩ := h
  unfold fL_patch
  exact zok_mono (zTh_u1 (s_X11_patch i)) (fun r q => ⟨H, q, e0, e1, e2⟩)
theorem c_load (h : zRC n k s σ) : zok (fX11_load σ ) (fun r => ∃ n1 s1, zRC n1 k s1 r.1) := by
  obtain ⟨H, i, e0, e1, e2⟩ := h
  exact zok_mono (s_X11_load i.E) (fun r q => by obtain ⟨H1, i1, g⟩ := q.1; exact ⟨H1 0, H1 1, H1, i1, rfl, (g 2 (by decide)).trans e1, rfl⟩)
theorem l_card (h : zRC n k s σ) {x1 : Int32} : zok (fL_card o σ x1) (fun r => zRC n k s r.1.2) := by
  obtain ⟨H, i, e0, e1, e2⟩ := h
  unfold fL_card
  exact zok_mono (zTh_i1 (s_X11_card i)) (fun r q => ⟨H, q, e0, e1, e2⟩)
theorem l_step (h : zRC n k s σ) {x1 : Int32} : zok (fL_step o σ x1) (fun r => zRC n k s r.1.2) := by
  obtain ⟨H, i, e0, e1, e2⟩ := h
  unfold fL_step
  exact zok_mono (zTh_i1 (s_X11_step i)) (fun r q => ⟨H, q, e0, e1, e2⟩)
theorem l_picture (h : zRC n k s σ) {x1 : Int32} : zok (fL_picture o σ x1) (fun r => zRC n k s r.1.2) := by
  obtain ⟨H, i, e0, e1, e2⟩ := h
  unfold fL_picture
  exact zok_mono (zTh_i1 (s_X11_picture i)) (fun r q => ⟨H, q, e0, e1, e2⟩)
theorem c_reset (h : zRC n k s σ) : zok (fX11_reset σ ) (fun r => zRC n k s r) := by
  obtain ⟨H, i, e0, e1, e2⟩ := h
  exact zok_mono (s_X11_reset i) (fun r q => ⟨H, q, e0, e1, e2⟩)
theorem c_pause (h : zRC n k s σ) : zok (fX11_pause σ ) (fun r => zRC n k s r.1) := by
  obtain ⟨H, i, e0, e1, e2⟩ := h
  exact zok_mono (s_X11_pause i) (fun r q => ⟨H, q.1, e0, e1, e2⟩)
theorem l_press (h : zRC n k s σ) {x1 : Int32} {x2 : Int32} : zok (fL_press σ x1 x2) (fun r => zRC n k s r.1) := by
  obtain ⟨H, i, e0, e1, e2⟩ := h
  unfold fL_press
  exact zok_mono (zTh_u1 (s_X11_press i)) (fun r q => ⟨H, q, e0, e1, e2⟩)
theorem c_start (h : zRC n k s σ) {x1 : Int32} (h_x1 : zr (0) (1) x1) : zok (fX11_start σ x1) (fun r => zRC n k s r) := by
  obtain ⟨H, i, e0, e1, e2⟩ := h
  exact zok_mono (s_X11_start i h_x1) (fun r q => ⟨H, q, e0, e1, e2⟩)
theorem l_line (h : zRC n k s σ) {x1 : Int32} {x2 : Int32} (h_x2 : zr (0) (1) x2) : zok (fL_line σ x1 x2) (fun r => zRC n k s r.1) := by
  obtain ⟨H, i, e0, e1, e2⟩ := h
  unfold fL_line
  exact zok_mono (zTh_u1 (s_X11_line i h_x2)) (fun r q => ⟨H, q, e0, e1, e2⟩)
theorem l_plan (h : zRC n k s σ) {x1 : Int32} {x2 : Int32} {x3 : Int32} : zok (fL_plan o σ x1 x2 x3) (fun r => zRC n k s r.1.2) := by
  obtain ⟨H, i, e0, e1, e2⟩ := h
  unfold fL_plan
  exact zok_mono (zTh_i2 (s_X11_plan i)) (fun r q => ⟨H, q, e0, e1, e2⟩)
theorem c_tell (h : zRC n k s σ) {x1 : Int32} : zok (fX11_tell σ x1) (fun r => zRC n k s r.1) := by
  obtain ⟨H, i, e0, e1, e2⟩ := h
  exact zok_mono (s_X11_tell i) (fun r q => ⟨H, q.1, e0, e1, e2⟩)
theorem l_text (h : zRC n k s σ) {x1 : Int32} : zok (fL_text o σ x1) (fun r => zRC n k s r.1.2) := by
  obtain ⟨H, i, e0, e1, e2⟩ := h
  unfold fL_text
  exact zok_mono (zTh_l1 (s_X11_text i)) (fun r q => ⟨H, q, e0, e1, e2⟩)
theorem l_stop (h : zRC n k s σ) {x1 : Int32} {x2 : Int32} (h_x2 : zr (0) (1) x2) : zok (fL_stop o σ x1 x2) (fun r => zRC n k s r.1.2) := by
  obtain ⟨H, i, e0, e1, e2⟩ := h
  unfold fL_stop
  exact zok_mono (zTh_i2 (s_X11_stop i h_x2)) (fun r q => ⟨H, q, e0, e1, e2⟩)
theorem c_save (h : zRC n k s σ) : zok (fX11_save σ ) (fun r => ∃ s1, zRC n k s1 r) := by
  obtain ⟨H, i, e0, e1, e2⟩ := h
  exact zok_mono (s_X11_save i.E) (fun r q => by obtain ⟨H1, i1, g⟩ := q; exact ⟨H1 1, H1, i1, (g 0 (by decide)).trans e0, (g 2 (by decide)).trans e1, rfl⟩)
theorem l_restore (h : zRC n k s σ) : zok (fL_restore σ ) (fun r => zRC n k s r.1) := by
  obtain ⟨H, i, e0, e1, e2⟩ := h
  unfold fL_restore
  exact zok_mono (zTh_u1 (s_X11_restore i)) (fun r q => ⟨H, q, e0, e1, e2⟩)
theorem l_register (h : zRC n k s σ) {x1 : Int32} : zok (fL_register o σ x1) (fun r => zRC n k s r.1.2) := by
  obtain ⟨H, i, e0, e1, e2⟩ := h
  unfold fL_register
  exact zok_mono (zTh_i1 (s_X11_register i)) (fun r q => ⟨H, q, e0, e1, e2⟩)
theorem l_set (h : zRC n k s σ) {x1 : Int32} {x2 : Int32} : zok (fL_set σ x1 x2) (fun r => zRC n k s r.1) := by
  obtain ⟨H, i, e0, e1, e2⟩ := h
  unfold fL_set
  exact zok_mono (zTh_u1 (s_X11_set i)) (fun r q => ⟨H, q, e0, e1, e2⟩)
theorem c_peek (h : zRC n k s σ) {x1 : Int32} : zok (fX11_peek σ x1) (fun r => zRC n k s r.1) := by
  have h0 := h
  obtain ⟨H, i, e⟩ := h
  exact zok_mono (s_X11_peek i.P) (fun r q => by rw [q.1]; exact h0)
theorem c_poke (h : zRC n k s σ) {x1 : Int32} {x2 : Int32} : zok (fX11_poke σ x1 x2) (fun r => zRC n k s r) := by
  obtain ⟨H, i, e0, e1, e2⟩ := h
  exact zok_mono (s_X11_poke i) (fun r q => ⟨H, q, e0, e1, e2⟩)
theorem c_in (h : zRC n k s σ) {x1 : Int32} : zok (fX11_in σ x1) (fun r => zRC n k s r.1) := by
  obtain ⟨H, i, e0, e1, e2⟩ := h
  exact zok_mono (s_X11_in i) (fun r q => ⟨H, q.1, e0, e1, e2⟩)
theorem c_out (h : zRC n k s σ) {x1 : Int32} {x2 : Int32} : zok (fX11_out σ x1 x2) (fun r => zRC n k s r) := by
  obtain ⟨H, i, e0, e1, e2⟩ := h
  exact zok_mono (s_X11_out i) (fun r q => ⟨H, q, e0, e1, e2⟩)
theorem l_battery (h : zRC n k s σ) {x1 : Int32} : zok (fL_battery o σ x1) (fun r => zRC n k s r.1.2) := by
  obtain ⟨H, i, e0, e1, e2⟩ := h
  unfold fL_battery
  exact zok_mono (zTh_i1 (s_X11_battery i)) (fun r q => ⟨H, q, e0, e1, e2⟩)
theorem c_wipe (h : zRC n k s σ) : zok (fX11_wipe σ ) (fun r => zRC n k s r) := by
  obtain ⟨H, i, e0, e1, e2⟩ := h
  exact zok_mono (s_X11_wipe i) (fun r q => ⟨H, q, e0, e1, e2⟩)
theorem c_video (h : zRC n k s σ) {x1 : Int32} : zok (fX11_video σ x1) (fun r => zRC n k s r.1) := by
  have h0 := h
  obtain ⟨H, i, e⟩ := h
  exact zok_mono (s_X11_video i.P) (fun r q => by rw [q.1]; exact h0)
theorem l_chip (h : zRC n k s σ) {x1 : Int32} : zok (fL_chip o σ x1) (fun r => zRC n k s r.1.2) := by
  obtain ⟨H, i, e0, e1, e2⟩ := h
  unfold fL_chip
  exact zok_mono (zTh_i1 (s_X11_chip i)) (fun r q => ⟨H, q, e0, e1, e2⟩)
theorem l_dot (h : zRC n k s σ) {x1 : Int32} {x2 : Int32} : zok (fL_dot o σ x1 x2) (fun r => zRC n k s r.1.2) := by
  obtain ⟨H, i, e0, e1, e2⟩ := h
  unfold fL_dot
  exact zok_mono (zTh_i1 (s_X11_dot i)) (fun r q => ⟨H, q, e0, e1, e2⟩)
theorem l_row (h : zRC n k s σ) {x1 : Int32} : zok (fL_row o σ x1) (fun r => zRC n k s r.1.2) := by
  obtain ⟨H, i, e0, e1, e2⟩ := h
  unfold fL_row
  exact zok_mono (zTh_i1 (s_X11_row i)) (fun r q => ⟨H, q, e0, e1, e2⟩)
theorem l_hear (h : zRC n k s σ) : zok (fL_hear o σ ) (fun r => zRC n k s r.1.2) := by
  obtain ⟨H, i, e0, e1, e2⟩ := h
  unfold fL_hear
  exact zok_mono (zTh_l1 (s_X11_hear i)) (fun r q => ⟨H, q, e0, e1, e2⟩)
theorem l_mix (h : zRC n k s σ) : zok (fL_mix o σ ) (fun r => zRC n k s r.1.2) := by
  obtain ⟨H, i, e0, e1, e2⟩ := h
  unfold fL_mix
  exact zok_mono (zTh_l1 (s_X11_mix i)) (fun r q => ⟨H, q, e0, e1, e2⟩)
theorem l_wave (h : zRC n k s σ) {x1 : Int32} : zok (fL_wave o σ x1) (fun r => zRC n k s r.1.2) := by
  obtain ⟨H, i, e0, e1, e2⟩ := h
  unfold fL_wave
  exact zok_mono (zTh_i1 (s_X11_wave i)) (fun r q => ⟨H, q, e0, e1, e2⟩)
theorem l_sound (h : zRC n k s σ) {x1 : Int32} : zok (fL_sound o σ x1) (fun r => zRC n k s r.1.2) := by
  obtain ⟨H, i, e0, e1, e2⟩ := h
  unfold fL_sound
  exact zok_mono (zTh_i1 (s_X11_sound i)) (fun r q => ⟨H, q, e0, e1, e2⟩)
theorem c_trace (h : zRC n k s σ) {x1 : Int32} : zok (fX11_trace σ x1) (fun r => zRC n k s r.1) := by
  have h0 := h
  obtain ⟨H, i, e⟩ := h
  exact zok_mono (s_X11_trace i.P) (fun r q => by rw [q.1]; exact h0)
theorem l_look (h : zRC n k s σ) {x1 : Int32} : zok (fL_look o σ x1) (fun r => zRC n k s r.1.2) := by
  obtain ⟨H, i, e0, e1, e2⟩ := h
  unfold fL_look
  exact zok_mono (zTh_l1 (s_X11_look i)) (fun r q => ⟨H, q, e0, e1, e2⟩)
end ZCALLS
