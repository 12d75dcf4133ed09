/-! THE LINE'S END -/
/-- the painter of both, as it is wanted -/
def zDr : Prop := ∀ s t : zSt, zVe s t → (s.1 23 20).toInt < (zht (s.1 23 0) (s.1 23 1)).toInt → zp2 (fX3_draw s ) (fX12_draws t (t.1 3 66)) (fun r r' => zVe r r' ∧ zQ [25, 27, 28, 29, 3] [(23, 15, 15)] [] [] s r ∧ zQ [22, 23, 24, 25, 9] [(3, 62, 62)] [] [] t r')
theorem zht_r (a b : Int32) : zr 192 240 (zht a b) := by
  unfold zht
  by_cases q1 : a &&& 4 = 0
  · rw [if_pos q1]; exact zr_c (by decide)
  · rw [if_neg q1]
    by_cases q2 : a &&& 2 = 0
    · rw [if_pos q2]; exact zr_c (by decide)
    · rw [if_neg q2]
      by_cases q3 : b &&& 16 = 0
      · rw [if_pos q3]
        by_cases q4 : b &&& 8 = 0
        · rw [if_pos q4]; exact zr_c (by decide)
        · rw [if_neg q4]; exact zr_c (by decide)
      · rw [if_neg q3]
        by_cases q4 : b &&& 8 = 0
        · rw [if_pos q4]; exact zr_c (by decide)
        · rw [if_neg q4]; exact zr_c (by decide)
section ZLE
variable {σ μ s t : zSt} {B : Int × Int × Int} {b : Int32}
def zTl3 (b : Int32) (B : Int × Int × Int) (r r' : zSt) : Prop := zTT (zIb b B) r r' ∧ zF r r' ∧ zWzz r r'
theorem zTl3.ok (h : zTl3 b B σ μ) {C D : Int} (v : zVe s t) (a : zQ [23] [] [] [] σ s) (d : zQ [] [(3, 62, 66)] [] [] μ t) (h1 : B.2.1 ≤ C) (ms : zMs D t) : zTl3 b (B.1, C, D) s t := by
  obtain ⟨h, hF, hW⟩ := h
  have hI : zIb b (B.1, C, D) s t := by
    refine ⟨v, h.2.2.2.2.1.kp a d rfl rfl, h.2.2.2.2.2.1.kp a d rfl rfl rfl rfl, ?_, ms⟩
    obtain ⟨c0, c1, c2, c3, c4⟩ := h.2.2.2.2.2.2.1
    unfold zCtb
    rw [a.rlo (k := 38) rfl, d.rlo (k := 4) rfl]
    exact ⟨c0, c1, c2, c3, Int.le_trans c4 h1⟩
  obtain ⟨k1, k2⟩ := h.kp hI a d rfl rfl
  exact ⟨k1, k2.f hF, k2.w hW⟩
theorem zTl3.of (h : zTl3 b B σ μ) (v : zVe s t) (a : zQ [23] [] [] [] σ s) (d : zQ [] [(3, 62, 65)] [] [] μ t) : zTl3 b B s t := h.ok v a (d.mono rfl rfl) (Int.le_refl _) (h.1.2.2.2.2.2.2.2.kp d rfl rfl rfl)
theorem zTl3.up (h : zTl3 b B σ μ) {C D : Int} (h1 : B.2.1 ≤ C) (h2 : D ≤ B.2.2) : zTl3 b (B.1, C, D) σ μ := ⟨zIb.mono h.1 h1 h2, h.2⟩
theorem zTl3.m0 (h : zTl3 b B σ μ) : 0 ≤ (μ.2 4 2).toInt := h.1.2.2.2.2.2.2.1.2.2.2.1
theorem zTl3.v (h : zTl3 b B σ μ) : zVe σ μ := h.1.2.2.2.1
theorem zVe.v15 (h : zVe σ μ) {v w : Int32} (r : zr 0 255 v) (e : w = v) : zVe (zsi σ 23 15 v) (zsi μ 3 62 w) := h.w (z_pn23_0 (d := 15) (by decide)) rfl (zGo.r rfl r) (by rw [z_an1]; exact e)
theorem zVe.v16 (h : zVe σ μ) {v w : Int32} (r : zr 0 1 v) (e : w = v) : zVe (zsi σ 23 16 v) (zsi μ 3 63 w) := h.w (z_pn23_0 (d := 16) (by decide)) rfl (zGo.r rfl r) (by rw [z_an1]; exact e)
theorem zVe.v18 (h : zVe σ μ) {v w : Int32} (r : zr (-1) 255 v) (e : w = v) : zVe (zsi σ 23 18 v) (zsi μ 3 64 w) := h.w (z_pn23_18 (d := 0) (by decide)) rfl (zGo.r rfl r) (by rw [z_an1]; exact e)
theorem zVe.v19 (h : zVe σ μ) {v w : Int32} (r : zr 0 255 v) (e : w = v) : zVe (zsi σ 23 19 v) (zsi μ 3 65 w) := h.w (z_pn23_18 (d := 1) (by decide)) rfl (zGo.r rfl r) (by rw [z_an1]; exact e)
theorem zVe.v20 (h : zVe σ μ) {v w : Int32} (r : zr 0 312 v) (l : v.toInt < (σ.1 2 1).toInt) (e : w = v) : zVe (zsi σ 23 20 v) (zsi μ 3 66 w) := by
  refine ⟨h.1.wr (z_pn23_18 (d := 2) (by decide)) (by rw [z_an1]; exact e), h.2.1.w (zGo.r rfl r), h.2.2.1, ?_⟩
  show ((zsi σ 23 20 v).1 23 20).toInt < (σ.1 2 1).toInt
  rw [zsi_ej]
  exact l
theorem zVe.e18 (h : zVe σ μ) : μ.1 3 64 = σ.1 23 18 := h.1.e (z_pn23_18 (d := 0) (by decide))
theorem zp2_subr {α β : Type} {o : Option α} {p p' : Option β} {Q : α → β → Prop} (hs : zpc p (fun r => p' = some r)) (h : zp2 o p' Q) : zp2 o p Q := fun a b ea eb => h a b ea (hs b eb)
/-- the status at the line below the picture -/
theorem t_133 (h : zTl3 b B s t) {ht : Int32} : zp2 (zbi (fX9_goesToNextLine_133 s ht 0) (fun σ1 v2 => if v2 = 0 then fX11_endLine_62 σ1 else zbu (fX0_countPicture σ1 ) (fun σ3 => zbl (fX0_count σ3 2) (fun σ4 v5 => zbu (fX1_carryOutPlans σ4 v5) (fun σ6 => fX11_endLine_62 σ6))))) (fX12_ends_169 t ht) (zTl3 b B) := by
  have hv := h.v
  unfold fX9_goesToNextLine_133 fX9_goesToNextLine_159 fX12_ends_169 fX12_ends_195 fX11_endLine_62
  rw [z_ick]
  refine zp2_ckl (zp2_ckr ?_)
  have e20 : zgi t 3 (66 : Int32).toNatClampNeg = zgi s 23 (20 : Int32).toNatClampNeg := hv.e20
  have e15 : zgi t 3 (62 : Int32).toNatClampNeg = zgi s 23 (15 : Int32).toNatClampNeg := hv.e15
  have r15 : zr 0 255 (zgi s 23 (15 : Int32).toNatClampNeg) := hv.2.1.at (k := 23) (j := 15) rfl
  rw [e20]
  by_cases q : zgi s 23 (20 : Int32).toNatClampNeg = ht + 1
  · rw [if_pos q, if_pos q]
    refine zp2_bil (P := fun r => r = (zsi s 23 15 (zgi s 23 (15 : Int32).toNatClampNeg ||| 128), 0)) (zpc_ck (zpc_ck (zpc_bv (fun s1 f1 => zpc_ck (zpc_some (by rw [f1]; rfl)))))) (fun s1 v1 e1 => ?_)
    cases e1
    refine zp2_ckr (zp2_ckr (zp2_bvr (fun t1 g1 => ?_)))
    rw [e15] at g1
    refine zp2_ifl (fun _ => zp2_some ?_) (fun q => absurd rfl q)
    rw [g1]
    exact h.of (hv.v15 (zr_or (lo := 0) (hi := 255) 8 r15 (zr_c (lo := 128) (hi := 128) (x := 128) (by decide)) (by decide)) rfl) (zQ.wi zQ.rf rfl) (zQ.wi zQ.rf rfl)
  · rw [if_neg q, if_neg q]
    refine zp2_bil (P := fun r => r = (s, 0)) (zpc_ck (zpc_some rfl)) (fun s1 v1 e1 => ?_)
    cases e1
    exact zp2_ifl (fun _ => zp2_some h) (fun q => absurd rfl q)
/-- the next line -/
theorem t_76 (hP : B.2.1 ≤ 1000000000000000) (h : zTl3 b B s t) {ht : Int32} (hh : zr 192 240 ht) : zp2 (zbi (fX9_goesToNextLine_76 s ht) (fun σ1 v2 => if v2 = 0 then fX11_endLine_62 σ1 else zbu (fX0_countPicture σ1 ) (fun σ3 => zbl (fX0_count σ3 2) (fun σ4 v5 => zbu (fX1_carryOutPlans σ4 v5) (fun σ6 => fX11_endLine_62 σ6))))) (fX12_ends_96 t ht) (zTl3 b (B.1, B.2.1 + 1, B.2.2 + 228)) := by
  have hv := h.v
  have e20 : zgi t 3 (66 : Int32).toNatClampNeg = s.1 23 20 := hv.e20
  have r20 : zr 0 312 (s.1 23 20) := hv.2.1.at (k := 23) (j := 20) rfl
  have ta : (s.1 23 20 + 1).toInt = (s.1 23 20).toInt + 1 := z_tadd r20 (zr_c (lo := 1) (hi := 1) (x := 1) (by decide)) (by decide)
  obtain ⟨k0, k1, k2, k3, k4, k5⟩ := hv.2.2.1
  have ln : (s.1 23 20).toInt < (s.1 2 1).toInt := hv.2.2.2
  have h0 := hh.1
  have r0 := r20.1
  have r1 := r20.2
  -- how many lines
  obtain ⟨N, eN, rN⟩ : ∃ N : Int32, s.1 2 1 = N ∧ (t.1 0 3 = 1 → N = 313) ∧ (¬ t.1 0 3 = 1 → N = 262) := ⟨s.1 2 1, rfl, fun q => by rw [k5, if_pos q], fun q => by rw [k5, if_neg q]⟩
  unfold fX12_ends_96
  refine zp2_ckr (zp2_ckr (zp2_bvr (fun t1 g1 => zp2_ckr ?_)))
  rw [e20] at g1
  have g1 : t1 = zsi t 3 66 (s.1 23 20 + 1) := g1
  have c66 : zgi t1 3 (66 : Int32).toNatClampNeg = s.1 23 20 + 1 := by rw [g1]; exact zsi_ej
  have c03 : zgi t1 0 3 = t.1 0 3 := by rw [g1]; rfl
  rw [c66, c03]
  refine zp2_subr (p' := fX12_ends_131 t1 ht N (s.1 23 20 + 1)) (zpc_if (fun q => ?_) (fun q => ?_)) ?_
  · rw [rN.1 q]; exact fun r er => er
  · rw [rN.2 q]; exact fun r er => er
  unfold fX12_ends_131
  rw [eN] at ln
  by_cases w : s.1 23 20 + 1 = N
  · -- a new picture
    refine zp2_ifr (fun _ => zp2_ckr (zp2_bvr (fun t2 g2 => ?_))) (fun q => absurd w q)
    have g2 : t2 = zsi t 3 66 0 := by rw [g2, g1]; exact zsi_ow
    have hv2 : zVe (zsi s 23 20 0) t2 := by
      rw [g2]
      exact hv.v20 (zr_c (by decide)) (by rw [eN, show (0 : Int32).toInt = 0 from rfl]; omega) rfl
    have e9 : t2.1 3 56 = s.1 23 9 := hv2.e9
    have hv3 : zVe (zsi (zsi s 23 20 0) 23 19 (s.1 23 9)) (zsi t2 3 65 (s.1 23 9)) := hv2.v19 hv.r9 rfl
    have q67 : (zsi t2 3 65 (s.1 23 9)).1 3 67 = t.1 3 67 := by rw [g2]; rfl
    have q66 : (zsi t2 3 65 (s.1 23 9)).1 3 66 = 0 := by rw [g2]; rfl
    have q42 : (zsi t2 3 65 (s.1 23 9)).2 4 2 = t.2 4 2 := by rw [g2]; rfl
    have q03 : (zsi t2 3 65 (s.1 23 9)).1 0 3 = t.1 0 3 := by rw [g2]; rfl
    have b67 : 0 ≤ (t.1 3 67).toInt := by rw [hv.e21]; exact (hv.2.1.at (k := 23) (j := 21) rfl).1
    have p42 := h.m0
    have h3 : zTl3 b (B.1, B.2.1, 0) (zsi (zsi s 23 20 0) 23 19 (s.1 23 9)) (zsi t2 3 65 (s.1 23 9)) := by
      refine h.ok hv3 (zQ.wi (zQ.wi zQ.rf rfl) rfl) (by rw [g2]; exact zQ.wi (zQ.wi zQ.rf rfl) rfl) (Int.le_refl _) ?_
      unfold zMs zMt
      rw [q67, q66, q42, q03, show (0 : Int32).toInt = 0 from rfl]
      by_cases q : t.1 0 3 = 1
      · rw [if_pos q]; omega
      · rw [if_neg q]; omega
    have ms0 : zMs B.2.2 t := h.1.2.2.2.2.2.2.2
    refine zp2_bil (P := fun r => r = (zsi (zsi s 23 20 0) 23 19 (s.1 23 9), 1)) ?_ (fun s1 v1 e1 => ?_)
    · unfold fX9_goesToNextLine_76 fX9_goesToNextLine_106 fX9_goesToNextLine_133 fX9_goesToNextLine_159
      refine zpc_ck (zpc_ck (zpc_bv (fun s1 f1 => zpc_ck (zpc_if (fun q => ?_) (fun _ => zpc_if (fun q => absurd q (by decide)) (fun _ => zpc_ck (zpc_bv (fun s2 f2 => zpc_ck (zpc_ck (zpc_bv (fun s3 f3 => zpc_ck ?_)))))))))))
      · have q : s.1 23 20 + 1 < s.1 2 1 := by rw [f1] at q; exact q
        rw [w, eN] at q
        exact absurd q Int32.lt_irrefl
      · have f2 : s2 = zsi s 23 20 0 := by rw [f2, f1]; exact zsi_ow
        have f3 : s3 = zsi (zsi s 23 20 0) 23 19 (s.1 23 9) := by rw [f3, f2]; rfl
        refine zpc_if (fun q => ?_) (fun _ => zpc_ck (zpc_some (by rw [f3])))
        have q : (0 : Int32) = ht + 1 := by rw [f3] at q; exact q
        have tb := z_tadd hh (zr_c (lo := 1) (hi := 1) (x := 1) (by decide)) (by decide)
        rw [← q] at tb
        have d1 : (1 : Int32).toInt = 1 := rfl
        have d0 : (0 : Int32).toInt = 0 := rfl
        exfalso
        omega
    cases e1
    refine zp2_ifl (fun q => absurd q (by decide)) (fun _ => ?_)
    unfold fX12_reg
    refine zp2_bir (P := fun r => r = (t2, s.1 23 9)) (zpc_ck (zpc_some (by rw [← e9]; rfl))) (fun t3 v3 e3 => zp2_ckr (zp2_bvr (fun t5 g5 => zp2_ckr (zp2_ckr (zp2_bvr (fun t6 g6 => ?_))))))
    cases e3
    have g5 : t5 = zsi t2 3 65 (s.1 23 9) := g5
    subst g5
    have g6 : t6 = zsl (zsi t2 3 65 (s.1 23 9)) 4 2 ((zsi t2 3 65 (s.1 23 9)).2 4 2 + 1) := g6
    obtain ⟨S, eS⟩ : ∃ S, S = zsi (zsi s 23 20 0) 23 19 (s.1 23 9) := ⟨_, rfl⟩
    obtain ⟨T, eT⟩ : ∃ T, T = zsi t2 3 65 (s.1 23 9) := ⟨_, rfl⟩
    rw [← eS, ← eT] at h3
    rw [← eT] at g6
    rw [← eS]
    refine zp2_bul (P := fun r => r = zsl S 38 2 (S.2 38 2 + 1)) (by unfold fX0_countPicture; exact zpc_ck (zpc_ck (zpc_bv (fun s1 f1 => zpc_some f1)))) (fun S1 eS1 => ?_)
    obtain ⟨q1, qF, qW⟩ := h3
    have a4 : zQ [] [] [] [(38, 2, 2)] S S1 := by rw [eS1]; exact zQ.wl zQ.rf rfl
    have d4 : zQ [] [] [] [(4, 2, 2)] T t6 := by rw [g6]; exact zQ.wl zQ.rf rfl
    have hI : zIb b (B.1, B.2.1 + 1, B.2.2 + 228) S1 t6 := by
      obtain ⟨⟨c0, c1, c2, c3, c4⟩, ms⟩ := q1.2.2.2.2.2.2
      have en : (t6.2 4 2).toInt = (T.2 4 2).toInt + 1 := by
        rw [g6, zsl_at, if_pos ⟨rfl, rfl⟩]
        exact z_tladd (a := 0) (b := 1000000000000000) ⟨c3, by have : (T.2 4 2).toInt ≤ B.2.1 := c4; omega⟩ (zrl_c (lo := 1) (hi := 1) (x := 1) (by decide)) (by decide)
      refine ⟨q1.2.2.2.1.kp a4 d4 (by decide +kernel) (by decide +kernel), q1.2.2.2.2.1.kp a4 d4 rfl rfl, q1.2.2.2.2.2.1.kp a4 d4 rfl rfl rfl rfl, ⟨?_, ?_, ?_, ?_, ?_⟩, ?_⟩
      · rw [a4.lo (k := 38) (a := 0) (b := 1) rfl (j := 0) (by decide) (by decide), d4.lo (k := 4) (a := 0) (b := 1) rfl (j := 0) (by decide) (by decide)]; exact c0
      · rw [a4.lo (k := 38) (a := 0) (b := 1) rfl (j := 1) (by decide) (by decide), d4.lo (k := 4) (a := 0) (b := 1) rfl (j := 1) (by decide) (by decide)]; exact c1
      · rw [eS1, g6, zsl_at, zsl_at, if_pos ⟨rfl, rfl⟩, if_pos ⟨rfl, rfl⟩, c2]
      · rw [en]; omega
      · rw [en]; have : (T.2 4 2).toInt ≤ B.2.1 := c4; show (T.2 4 2).toInt + 1 ≤ B.2.1 + 1; omega
      · have x67 : t6.1 3 67 = t.1 3 67 := by rw [g6]; show T.1 3 67 = _; rw [eT]; exact q67
        have x66 : t6.1 3 66 = 0 := by rw [g6]; show T.1 3 66 = _; rw [eT]; exact q66
        have x03 : t6.1 0 3 = t.1 0 3 := by rw [g6]; show T.1 0 3 = _; rw [eT]; exact q03
        have xT : T.2 4 2 = t.2 4 2 := by rw [eT]; exact q42
        have z66 : t.1 3 66 = s.1 23 20 := hv.e20
        unfold zMs zMt at ms0 ⊢
        rw [x67, x66, x03, en, xT, show (0 : Int32).toInt = 0 from rfl]
        rw [z66] at ms0
        have wl : (s.1 23 20).toInt + 1 = N.toInt := by rw [← ta, w]
        show B.2.2 + 228 ≤ _
        by_cases q : t.1 0 3 = 1
        · rw [if_pos q] at ms0 ⊢
          rw [rN.1 q, show (313 : Int32).toInt = 313 from rfl] at wl
          omega
        · rw [if_neg q] at ms0 ⊢
          rw [rN.2 q, show (262 : Int32).toInt = 262 from rfl] at wl
          omega
    obtain ⟨z1, z2⟩ := q1.kp hI a4 d4 rfl rfl
    refine zp2_bll (P := fun r => r = (S1, S1.2 38 2)) ?_ (fun S2 v5 e5 => ?_)
    · unfold fX0_count fX0_count_20
      exact zpc_if (fun q => absurd q (by decide)) (fun _ => zpc_if (fun q => absurd q (by decide)) (fun _ => zpc_ck (zpc_some rfl)))
    cases e5
    unfold fX1_carryOutPlans fX11_endLine_62
    have e38 : S1.2 38 2 = t6.2 4 2 := hI.2.2.2.1.2.2.1.symm
    rw [e38]
    refine zp2_buu (t_plans zfuel zfuel S1 t6 0 (zr_c (by decide)) ?_ rfl z1 (z2.f qF) (z2.w qW)) (fun r r' q => ?_)
    · have := hI.2.1.2.1.2
      rw [show (0 : Int32).toInt = 0 from rfl]
      omega
    · -- the line is 0: no status
      unfold fX12_ends_169 fX12_ends_195
      refine zp2_ckr (zp2_ifr (fun z => ?_) (fun _ => zp2_some q.1))
      have y : r'.1 3 66 = 0 := by
        rw [q.2, g6]
        show T.1 3 66 = 0
        rw [eT, g2]
        rfl
      have z : r'.1 3 66 = ht + 1 := z
      rw [y] at z
      have tb := z_tadd hh (zr_c (lo := 1) (hi := 1) (x := 1) (by decide)) (by decide)
      rw [← z] at tb
      have d1 : (1 : Int32).toInt = 1 := rfl
      have d0 : (0 : Int32).toInt = 0 := rfl
      exfalso
      omega
  · refine zp2_ifr (fun q => absurd q w) (fun _ => ?_)
    have lt : s.1 23 20 + 1 < N := Int32.lt_iff_toInt_lt.mpr (by
      have : ¬ (s.1 23 20 + 1).toInt = N.toInt := fun q => w (Int32.toInt_inj.mp q)
      omega)
    have ltn := Int32.lt_iff_toInt_lt.mp lt
    have nb : N.toInt ≤ 313 := by
      by_cases q : t.1 0 3 = 1
      · rw [rN.1 q]; decide
      · rw [rN.2 q]; decide
    have hv2 : zVe (zsi s 23 20 (s.1 23 20 + 1)) t1 := by
      rw [g1]
      exact hv.v20 ⟨by omega, by omega⟩ (by rw [eN]; exact ltn) rfl
    have h2 : zTl3 b (B.1, B.2.1 + 1, B.2.2 + 228) (zsi s 23 20 (s.1 23 20 + 1)) t1 := by
      refine h.ok hv2 (zQ.wi zQ.rf rfl) (by rw [g1]; exact zQ.wi zQ.rf rfl) (by omega) ?_
      have ms0 : zMs B.2.2 t := h.1.2.2.2.2.2.2.2
      have z66 : t.1 3 66 = s.1 23 20 := hv.e20
      have x67 : t1.1 3 67 = t.1 3 67 := by rw [g1]; rfl
      have x66 : t1.1 3 66 = s.1 23 20 + 1 := by rw [g1]; exact zsi_ej
      have x03 : t1.1 0 3 = t.1 0 3 := by rw [g1]; rfl
      have x42 : t1.2 4 2 = t.2 4 2 := by rw [g1]; rfl
      unfold zMs zMt at ms0 ⊢
      rw [x67, x66, x03, x42, ta]
      rw [z66] at ms0
      omega
    refine zp2_sub (o' := fX9_goesToNextLine_133 (zsi s 23 20 (s.1 23 20 + 1)) ht 0) ?_ (t_133 h2)
    unfold fX9_goesToNextLine_76 fX9_goesToNextLine_106
    refine zpc_ck (zpc_ck (zpc_bv (fun s1 f1 => zpc_ck (zpc_if (fun _ => zpc_if (fun _ => ?_) (fun q => absurd rfl q)) (fun q => ?_)))))
    · have f1 : s1 = zsi s 23 20 (s.1 23 20 + 1) := f1
      rw [f1]
      exact fun r er => er
    · exfalso
      refine q ?_
      rw [f1]
      show s.1 23 20 + 1 < s.1 2 1
      rw [eN]
      exact lt
theorem t_26 (hP : B.2.1 ≤ 1000000000000000) (h : zTl3 b B s t) : zp2 (fX11_endLine_26 s ) (fX12_ends_27 t (zht (s.1 23 0) (s.1 23 1))) (zTl3 b (B.1, B.2.1 + 1, B.2.2 + 228)) := by
  have hv := h.v
  have hh := zht_r (s.1 23 0) (s.1 23 1)
  obtain ⟨ht, eh⟩ : ∃ ht, ht = zht (s.1 23 0) (s.1 23 1) := ⟨_, rfl⟩
  rw [← eh] at hh
  have pC : zpc (fX9_height s ) (fun r => r = (s, ht)) := by rw [eh]; exact p_heightC hv.r0 hv.r1
  rw [← eh]
  have e20 : zgi t 3 (66 : Int32).toNatClampNeg = zgi s 23 (20 : Int32).toNatClampNeg := hv.e20
  have e18 : zgi t 3 (64 : Int32).toNatClampNeg = zgi s 23 (18 : Int32).toNatClampNeg := hv.e18
  have e10 : t.1 3 57 = s.1 23 10 := hv.e10
  have r18 : zr (-1) 255 (s.1 23 18) := hv.2.1.at (k := 23) (j := 18) rfl
  unfold fX11_endLine_26 fX12_ends_27 fX12_reg
  refine zp2_ckr ?_
  rw [e20]
  by_cases q : zgi s 23 (20 : Int32).toNatClampNeg ≤ ht
  · have nq : ¬ ht < zgi s 23 (20 : Int32).toNatClampNeg := fun r => by have := Int32.le_iff_toInt_le.mp q; have := Int32.lt_iff_toInt_lt.mp r; omega
    refine zp2_ifr (fun r => absurd r nq) (fun _ => zp2_ckr (zp2_ckr (zp2_bvr (fun t1 g1 => zp2_ckr ?_))))
    rw [e18] at g1
    have c64 : zgi t1 3 (64 : Int32).toNatClampNeg = s.1 23 18 - 1 := by rw [g1]; exact zsi_ej
    rw [c64]
    by_cases p : 0 ≤ s.1 23 18 - 1
    · refine zp2_ifr (fun _ => ?_) (fun r => absurd p r)
      have ts : (s.1 23 18 - 1).toInt = (s.1 23 18).toInt - 1 ∨ True := Or.inr trivial
      have r18b : zr (-2) 254 (s.1 23 18 - 1) := zr_sub r18 (zr_c (lo := 1) (hi := 1) (x := 1) (by decide)) (by decide)
      have h1 : zTl3 b B (zsi s 23 18 (s.1 23 18 - 1)) t1 := by
        rw [g1]
        exact h.of (hv.v18 ⟨by have := Int32.le_iff_toInt_le.mp p; have c : (0 : Int32).toInt = 0 := rfl; omega, by have := r18b.2; omega⟩ rfl) (zQ.wi zQ.rf rfl) (zQ.wi zQ.rf rfl)
      refine zp2_sub (o' := fX9_goesToNextLine_76 (zsi s 23 18 (s.1 23 18 - 1)) ht) ?_ (t_76 hP h1 hh)
      unfold fX9_goesToNextLine
      refine zpc_bi pC (fun s1 v1 e1 => ?_)
      cases e1
      refine zpc_ck (zpc_if (fun _ => zpc_ck (zpc_ck (zpc_bv (fun s2 f2 => zpc_ck (zpc_if (fun _ => ?_) (fun r => ?_)))))) (fun r => absurd q r))
      · have f2 : s2 = zsi s 23 18 (s.1 23 18 - 1) := f2
        rw [f2]
        exact fun r er => er
      · exfalso
        refine r ?_
        rw [f2]
        show 0 ≤ (zsi s 23 18 (s.1 23 18 - 1)).1 23 18
        rw [zsi_ej]
        exact p
    · refine zp2_ifr (fun r => absurd r p) (fun _ => ?_)
      refine zp2_bir (P := fun r => r = (t1, s.1 23 10)) (zpc_ck (zpc_some (by rw [g1, ← e10]; rfl))) (fun t2 v2 e2 => zp2_ckr (zp2_bvr (fun t3 g3 => zp2_ckr (zp2_bvr (fun t4 g4 => ?_)))))
      cases e2
      have g3 : t3 = zsi t 3 64 (s.1 23 10) := by rw [g3, g1]; exact zsi_ow
      have r10 := hv.r10
      have h1 : zTl3 b B (zsi (zsi s 23 18 (s.1 23 10)) 23 16 1) t4 := by
        rw [g4, g3]
        exact h.of ((hv.v18 (zr_w r10 (by decide)) rfl).v16 (zr_c (by decide)) rfl) (zQ.wi (zQ.wi zQ.rf rfl) rfl) (zQ.wi (zQ.wi zQ.rf rfl) rfl)
      refine zp2_sub (o' := fX9_goesToNextLine_76 (zsi (zsi s 23 18 (s.1 23 10)) 23 16 1) ht) ?_ (t_76 hP h1 hh)
      unfold fX9_goesToNextLine
      refine zpc_bi pC (fun s1 v1 e1 => ?_)
      cases e1
      refine zpc_ck (zpc_if (fun _ => zpc_ck (zpc_ck (zpc_bv (fun s2 f2 => zpc_ck (zpc_if (fun r => ?_) (fun _ => zpc_ck (zpc_ck (zpc_bv (fun s3 f3 => zpc_ck (zpc_bv (fun s4 f4 => ?_))))))))))) (fun r => absurd q r))
      · exfalso
        refine p ?_
        rw [f2] at r
        have r : 0 ≤ (zsi s 23 18 (s.1 23 18 - 1)).1 23 18 := r
        rw [zsi_ej] at r
        exact r
      · have f3 : s3 = zsi s 23 18 (s.1 23 10) := by
          rw [f3, f2]
          exact zsi_ow
        have f4 : s4 = zsi (zsi s 23 18 (s.1 23 10)) 23 16 1 := by rw [f4, f3]; rfl
        rw [f4]
        exact fun r er => er
  · have lt : ht < zgi s 23 (20 : Int32).toNatClampNeg := z_nle q
    refine zp2_ifr (fun _ => ?_) (fun r => absurd lt r)
    refine zp2_bir (P := fun r => r = (t, s.1 23 10)) (zpc_ck (zpc_some (by rw [← e10]; rfl))) (fun t2 v2 e2 => zp2_ckr (zp2_bvr (fun t3 g3 => ?_)))
    cases e2
    have g3 : t3 = zsi t 3 64 (s.1 23 10) := g3
    have h1 : zTl3 b B (zsi s 23 18 (s.1 23 10)) t3 := by
      rw [g3]
      exact h.of (hv.v18 (zr_w hv.r10 (by decide)) rfl) (zQ.wi zQ.rf rfl) (zQ.wi zQ.rf rfl)
    refine zp2_sub (o' := fX9_goesToNextLine_76 (zsi s 23 18 (s.1 23 10)) ht) ?_ (t_76 hP h1 hh)
    unfold fX9_goesToNextLine
    refine zpc_bi pC (fun s1 v1 e1 => ?_)
    cases e1
    refine zpc_ck (zpc_if (fun r => absurd r q) (fun _ => zpc_ck (zpc_ck (zpc_bv (fun s2 f2 => ?_)))))
    have f2 : s2 = zsi s 23 18 (s.1 23 10) := f2
    rw [f2]
    exact fun r er => er
theorem zLe_of (hD : zDr) : zLe := fun b B s t hP h hF hW => by
  have h3 : zTl3 b B s t := ⟨h, hF, hW⟩
  have hv := h3.v
  unfold fX11_endLine fX12_ends
  refine zp2_bil (P := fun r => r = (s, s.1 23 20)) ?_ (fun s1 v1 e1 => ?_)
  · unfold fX9_held fX9_held_20
    exact zpc_if (fun q => absurd q (by decide)) (fun _ => zpc_if (fun q => absurd q (by decide)) (fun _ => zpc_ck (zpc_some rfl)))
  cases e1
  refine zp2_bil (p_heightC hv.r0 hv.r1) (fun s2 v2 e2 => ?_)
  cases e2
  have pM := p_heightM (μ := t) (by rw [hv.e0]; exact hv.r0) (by rw [hv.e1]; exact hv.r1)
  rw [hv.e0, hv.e1] at pM
  refine zp2_bir pM (fun t2 v2 e2 => zp2_ckr ?_)
  cases e2
  have e20 : zgi t 3 (66 : Int32).toNatClampNeg = s.1 23 20 := hv.e20
  rw [e20]
  refine zp2_if (fun _ => t_26 hP h3) (fun q => zp2_ckr ?_)
  have lt := Int32.lt_iff_toInt_lt.mp (z_nle q)
  have d := hD s t hv lt
  rw [hv.e20] at d
  refine zp2_buu d (fun r r' q => ?_)
  obtain ⟨q1, q2, q3⟩ := q
  have hI : zIb b B r r' := by
    refine ⟨q1, h.2.2.2.2.1.kp q2 q3 rfl rfl, h.2.2.2.2.2.1.kp q2 q3 rfl rfl rfl rfl, ?_, h.2.2.2.2.2.2.2.kp q3 rfl rfl rfl⟩
    unfold zCtb
    rw [q2.rlo (k := 38) rfl, q3.rlo (k := 4) rfl]
    exact h.2.2.2.2.2.2.1
  obtain ⟨k1, k2⟩ := h.kp hI q2 q3 rfl rfl
  have h4 : zTl3 b B r r' := ⟨k1, k2.f hF, k2.w hW⟩
  have z := t_26 hP h4
  rw [q2.o (k := 23) (a := 0) (b := 1) rfl (j := 0) (by decide) (by decide), q2.o (k := 23) (a := 0) (b := 1) rfl (j := 1) (by decide) (by decide)] at z
  exact z
end ZLE
