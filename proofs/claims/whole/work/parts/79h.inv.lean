/-! ===== what holds between the law's calls ===== -/
def gC1 (V U T : zMm) (W : Int → zMm) (K : Int → Int) (m : zMm) : Prop := gI V m ∧ gCu U m ∧ gTc T m ∧ ∀ k, 0 ≤ k → k ≤ 2 → m (66 + 19 * k) 3 = K k ∧ (K k ≠ 0 → gIm (W k) (66 + 19 * k) m)
def gM1 (V U T : zMm) (W : Int → zMm) (K : Int → Int) (m : zMm) : Prop := gQ V m ∧ gMu U m ∧ gTm T m ∧ ∀ k, 0 ≤ k → k ≤ 2 → m 142 k = K k ∧ (K k ≠ 0 → gIn (W k) (k + 1) m)
def gIw (m : zMm) : Prop := ∃ (V U T : zMm) (W : Int → zMm) (K : Int → Int), gUk U ∧ gTo1 T ∧ gC1 V U T W K m ∧ gM1 V U T W K m
/-- the script's cell -/
def gScr (m m' : zMm) : Prop := ∀ j, m' (-2) j = m (-2) j
def gSr (m : zMm) : Prop := (0 ≤ m (-2) (-1) ∧ m (-2) (-1) < 2147483648) ∧ ∀ j, 0 ≤ j → j < m (-2) (-1) → -2147483648 ≤ m (-2) j ∧ m (-2) j < 2147483648
theorem gScr_tr {m m' m'' : zMm} (h1 : gScr m m') (h2 : gScr m' m'') : gScr m m'' := fun j => by rw [h2 j, h1 j]
theorem gSr_of {m m' : zMm} (h : gSr m) (h1 : gScr m m') : gSr m' := ⟨by rw [h1]; exact h.1, fun j a b => by rw [h1] at b ⊢; exact h.2 j a b⟩
theorem gI_o {V m m' : zMm} (h : gI V m) (hf : ∀ c i, c = 0 ∨ (20 ≤ c ∧ c < 64) → m' c i = m c i) : gI V m' := by
  refine ⟨gA_of h.1 (fun c i a b => hf c i (by omega)), h.2.1, ⟨by rw [hf 0 5 (by decide)]; exact h.2.2.1.1, fun k a b => by rw [hf 42 k (by decide)]; exact h.2.2.1.2 k a b⟩, gSt_of h.2.2.2.1 (fun i => hf 43 i (by decide)) (fun i => hf 44 i (by decide)), ?_⟩
  rcases h.2.2.2.2 with z | z
  · exact Or.inl (by rw [hf 48 3 (by decide)]; exact z)
  · exact Or.inr ⟨by rw [hf 48 3 (by decide)]; exact z.1, by rw [hf 48 2 (by decide)]; exact z.2.1, fun i hi => by rw [hf 49 i (by decide)]; exact z.2.2 i hi⟩
/-- the images of the class, behind what leaves them alone -/
theorem gC1_i {W : Int → zMm} {K : Int → Int} {m m' : zMm} (h : ∀ k, 0 ≤ k → k ≤ 2 → m (66 + 19 * k) 3 = K k ∧ (K k ≠ 0 → gIm (W k) (66 + 19 * k) m)) (hf : ∀ c i, 64 ≤ c → c < 131 → m' c i = m c i) : ∀ k, 0 ≤ k → k ≤ 2 → m' (66 + 19 * k) 3 = K k ∧ (K k ≠ 0 → gIm (W k) (66 + 19 * k) m') := fun k a b => ⟨by rw [hf _ _ (by omega) (by omega)]; exact (h k a b).1, fun z => gIm_of ((h k a b).2 z) (fun c i x y => hf c i (by omega) (by omega))⟩
theorem gM1_i {W : Int → zMm} {K : Int → Int} {m m' : zMm} (h : ∀ k, 0 ≤ k → k ≤ 2 → m 142 k = K k ∧ (K k ≠ 0 → gIn (W k) (k + 1) m)) (hf : ∀ c i, c = 142 ∨ (c = 137 ∧ 1 ≤ i ∧ i < 4) ∨ (c = 138 ∧ 10 ≤ i ∧ i < 40) ∨ (c = 139 ∧ 32 ≤ i ∧ i < 128) ∨ (c = 140 ∧ 30 ≤ i ∧ i < 120) ∨ (c = 141 ∧ 40 ≤ i) → m' c i = m c i) : ∀ k, 0 ≤ k → k ≤ 2 → m' 142 k = K k ∧ (K k ≠ 0 → gIn (W k) (k + 1) m') := fun k a b => ⟨by rw [hf _ _ (by omega)]; exact (h k a b).1, fun z => ⟨((h k a b).2 z).1, ((h k a b).2 z).2.1, gSec_of ((h k a b).2 z).2.2 ((h k a b).2 z).1 (fun c i x => hf c i (by omega))⟩⟩
theorem gQ_o {V m m' : zMm} (h : gQ V m) (hf : ∀ c i, (c = 137 ∧ i = 0) ∨ (c = 138 ∧ 0 ≤ i ∧ i < 10) ∨ (c = 139 ∧ 0 ≤ i ∧ i < 32) ∨ (c = 140 ∧ 0 ≤ i ∧ i < 30) ∨ (c = 141 ∧ 0 ≤ i ∧ i < 40) → m' c i = m c i) : gQ V m' := by
  have s1 := gSec_0.mp (gSec_of (gSec_0.mpr ⟨h.2.2.1, h.2.2.2⟩) h.1 (m' := m') (fun c i hc => hf c i (by omega)))
  exact ⟨h.1, h.2.1, s1.1, s1.2⟩
theorem gC1_f {V U T : zMm} {W : Int → zMm} {K : Int → Int} {m m' : zMm} (h : gC1 V U T W K m) (hf : ∀ c i, c < 131 → m' c i = m c i) : gC1 V U T W K m' := ⟨gI_o h.1 (fun c i a => hf c i (by omega)), gCu_of h.2.1 (fun c i a b => hf c i (by omega)), gTc_of h.2.2.1 (fun c i a => hf c i (by omega)), gC1_i h.2.2.2 (fun c i a b => hf c i b)⟩
theorem gM1_f {V U T : zMm} {W : Int → zMm} {K : Int → Int} {m m' : zMm} (h : gM1 V U T W K m) (hf : ∀ c i, 131 ≤ c → m' c i = m c i) : gM1 V U T W K m' := ⟨gQ_o h.1 (fun c i a => hf c i (by omega)), gMu_of h.2.1 (fun c i a b => hf c i (by omega)), gTm_of h.2.2.1 (fun c i a => hf c i (by omega)), gM1_i h.2.2.2 (fun c i a => hf c i (by omega))⟩
/-! the class's calls -/
theorem gC1_q {V U T : zMm} {W : Int → zMm} {K : Int → Int} {m m' : zMm} (h : gC1 V U T W K m) (hI : gI V m') (hX : gX m m') : gC1 V U T W K m' ∧ (∀ c i, 131 ≤ c → m' c i = m c i) ∧ gScr m m' := ⟨⟨hI, gCu_x h.2.1 hX, gTc_of h.2.2.1 (fun c i a => hX c i (by omega)), gC1_i h.2.2.2 (fun c i a b => hX c i (by omega))⟩, fun c i a => hX c i (by omega), fun j => hX (-2) j (by omega)⟩
theorem gC1_z {V V1 U T : zMm} {W : Int → zMm} {K : Int → Int} {m m' : zMm} (h : gC1 V U T W K m) (hI : gI V1 m') (hX : gZ m m') : gC1 V1 U T W K m' ∧ (∀ c i, 131 ≤ c → m' c i = m c i) ∧ gScr m m' := ⟨⟨hI, gCu_of h.2.1 (fun c i a b => hX c i (by omega)), gTc_of h.2.2.1 (fun c i a => hX c i (by omega)), gC1_i h.2.2.2 (fun c i a b => hX c i (by omega))⟩, fun c i a => hX c i (by omega), fun j => hX (-2) j (by omega)⟩
theorem gC1_h {V U T T1 : zMm} {W : Int → zMm} {K : Int → Int} {m m' : zMm} (h : gC1 V U T W K m) (hI : gTc T1 m') (hX : gHc m m') : gC1 V U T1 W K m' ∧ (∀ c i, 131 ≤ c → m' c i = m c i) ∧ gScr m m' := ⟨⟨gI_o h.1 (fun c i a => hX c i (by omega)), gCu_of h.2.1 (fun c i a b => hX c i (by omega)), hI, gC1_i h.2.2.2 (fun c i a b => hX c i (by omega))⟩, fun c i a => hX c i (by omega), fun j => hX (-2) j (by omega)⟩
theorem gC1_u {V U U1 T : zMm} {W : Int → zMm} {K : Int → Int} {m m' : zMm} (h : gC1 V U T W K m) (hI : gCu U1 m') (hX : gFc m m') : gC1 V U1 T W K m' ∧ (∀ c i, 131 ≤ c → m' c i = m c i) ∧ gScr m m' := ⟨⟨gI_o h.1 (fun c i a => hX c i (by omega)), hI, gTc_of h.2.2.1 (fun c i a => hX c i (by omega)), fun k a b => ⟨by rw [hX _ _ (by omega)]; exact (h.2.2.2 k a b).1, fun z => gIm_of ((h.2.2.2 k a b).2 z) (fun c i x y => hX c i (by omega))⟩⟩, fun c i a => hX c i (by omega), fun j => hX (-2) j (by omega)⟩
theorem gC1_s {V V1 U T T1 : zMm} {W : Int → zMm} {K : Int → Int} {m m' : zMm} (h : gC1 V U T W K m) (hI : gI V1 m') (hT : gTc T1 m') (hX : ∀ c i, c < 0 ∨ c = 2 ∨ 64 ≤ c → m' c i = m c i) : gC1 V1 U T1 W K m' ∧ (∀ c i, 131 ≤ c → m' c i = m c i) ∧ gScr m m' := ⟨⟨hI, gCu_of h.2.1 (fun c i a b => hX c i (by omega)), hT, gC1_i h.2.2.2 (fun c i a b => hX c i (by omega))⟩, fun c i a => hX c i (by omega), fun j => hX (-2) j (by omega)⟩
def gWs1 (k : Int) (V : zMm) (W : Int → zMm) : Int → zMm := fun j => if j = k then V else W j
def gKs1 (k : Int) (K : Int → Int) : Int → Int := fun j => if j = k then 1 else K j
theorem gC1_m {V U T : zMm} {W : Int → zMm} {K : Int → Int} {m m' : zMm} {k : Int} (h : gC1 V U T W K m) (hI : 0 ≤ k ∧ k ≤ 2 → gIm V (66 + 19 * k) m' ∧ m' (66 + 19 * k) 3 = 1) (hX : ∀ c i, ¬ (0 ≤ k ∧ k ≤ 2) ∨ c < 66 + 19 * k ∨ 84 + 19 * k < c → m' c i = m c i) : gC1 V U T (gWs1 k V W) (gKs1 k K) m' ∧ (∀ c i, 131 ≤ c → m' c i = m c i) ∧ gScr m m' := by
  refine ⟨⟨gI_o h.1 (fun c i a => hX c i (by omega)), gCu_of h.2.1 (fun c i a b => hX c i (by omega)), gTc_of h.2.2.1 (fun c i a => hX c i (by omega)), fun j a b => ?_⟩, fun c i a => hX c i (by omega), fun j => hX (-2) j (by omega)⟩
  by_cases e : j = k
  · have q := hI (by omega)
    unfold gWs1 gKs1
    rw [if_pos e, if_pos e, e]
    exact ⟨q.2, fun _ => q.1⟩
  · unfold gWs1 gKs1
    rw [if_neg e, if_neg e, hX _ _ (by omega)]
    exact ⟨(h.2.2.2 j a b).1, fun z => gIm_of ((h.2.2.2 j a b).2 z) (fun c i x y => hX c i (by omega))⟩
/-! the model's calls -/
theorem gM1_q {V U T : zMm} {W : Int → zMm} {K : Int → Int} {m m' : zMm} (h : gM1 V U T W K m) (hX : gY m m') : gM1 V U T W K m' ∧ (∀ c i, c < 131 → m' c i = m c i) ∧ gScr m m' := ⟨⟨gQ_y h.1 hX, gMu_y h.2.1 hX, gTm_of h.2.2.1 (fun c i a => hX c i (by omega)), gM1_i h.2.2.2 (fun c i a => hX c i (by omega))⟩, fun c i a => hX c i (by omega), fun j => hX (-2) j (by omega)⟩
theorem gM1_z {V V1 U T : zMm} {W : Int → zMm} {K : Int → Int} {m m' : zMm} (h : gM1 V U T W K m) (hI : gQ V1 m') (hX : gZm m m') : gM1 V1 U T W K m' ∧ (∀ c i, c < 131 → m' c i = m c i) ∧ gScr m m' := ⟨⟨hI, gMu_of h.2.1 (fun c i a b => hX c i (by omega)), gTm_of h.2.2.1 (fun c i a => hX c i (by omega)), gM1_i h.2.2.2 (fun c i a => hX c i (by omega))⟩, fun c i a => hX c i (by omega), fun j => hX (-2) j (by omega)⟩
theorem gM1_h {V U T T1 : zMm} {W : Int → zMm} {K : Int → Int} {m m' : zMm} (h : gM1 V U T W K m) (hI : gTm T1 m') (hX : gHm m m') : gM1 V U T1 W K m' ∧ (∀ c i, c < 131 → m' c i = m c i) ∧ gScr m m' := ⟨⟨gQ_o h.1 (fun c i a => hX c i (by omega)), gMu_of h.2.1 (fun c i a b => hX c i (by omega)), hI, gM1_i h.2.2.2 (fun c i a => hX c i (by omega))⟩, fun c i a => hX c i (by omega), fun j => hX (-2) j (by omega)⟩
theorem gM1_u {V U U1 T : zMm} {W : Int → zMm} {K : Int → Int} {m m' : zMm} (h : gM1 V U T W K m) (hI : gMu U1 m') (hX : gFm m m') : gM1 V U1 T W K m' ∧ (∀ c i, c < 131 → m' c i = m c i) ∧ gScr m m' := ⟨⟨gQ_o h.1 (fun c i a => hX c i (by omega)), hI, gTm_of h.2.2.1 (fun c i a => hX c i (by omega)), gM1_i h.2.2.2 (fun c i a => hX c i (by omega))⟩, fun c i a => hX c i (by omega), fun j => hX (-2) j (by omega)⟩
theorem gM1_s {V V1 U T T1 : zMm} {W : Int → zMm} {K : Int → Int} {m m' : zMm} (h : gM1 V U T W K m) (hI : gQ V1 m') (hT : gTm T1 m') (hX : gZs m m') : gM1 V1 U T1 W K m' ∧ (∀ c i, c < 131 → m' c i = m c i) ∧ gScr m m' := ⟨⟨hI, gMu_of h.2.1 (fun c i a b => hX c i (by omega)), hT, gM1_i h.2.2.2 (fun c i a => hX c i (by omega))⟩, fun c i a => hX c i (by omega), fun j => hX (-2) j (by omega)⟩
theorem gM1_m {V U T : zMm} {W : Int → zMm} {K : Int → Int} {m m' : zMm} {k : Int} (h : gM1 V U T W K m) (hI : 0 ≤ k ∧ k ≤ 2 → gIn V (k + 1) m' ∧ m' 142 k = 1) (hX : ∀ c i, ¬ ((0 ≤ k ∧ k ≤ 2) ∧ ((c = 137 ∧ i = k + 1) ∨ (c = 138 ∧ 10 * (k + 1) ≤ i ∧ i < 10 * (k + 1) + 10) ∨ (c = 139 ∧ 32 * (k + 1) ≤ i ∧ i < 32 * (k + 1) + 32) ∨ (c = 140 ∧ 30 * (k + 1) ≤ i ∧ i < 30 * (k + 1) + 30) ∨ (c = 141 ∧ 40 * (k + 1) ≤ i ∧ i < 40 * (k + 1) + 40) ∨ (c = 142 ∧ i = k))) → ¬ (c = 131 ∧ i = 0) → m' c i = m c i) : gM1 V U T (gWs1 k V W) (gKs1 k K) m' ∧ (∀ c i, c < 131 → m' c i = m c i) ∧ gScr m m' := by
  refine ⟨⟨gQ_o h.1 (fun c i a => hX c i (by omega) (by omega)), gMu_of h.2.1 (fun c i a b => hX c i (by omega) (by omega)), gTm_of h.2.2.1 (fun c i a => hX c i (by omega) (by omega)), fun j a b => ?_⟩, fun c i a => hX c i (by omega) (by omega), fun j => hX (-2) j (by omega) (by omega)⟩
  by_cases e : j = k
  · have q := hI (by omega)
    unfold gWs1 gKs1
    rw [if_pos e, if_pos e, e]
    exact ⟨q.2, fun _ => q.1⟩
  · unfold gWs1 gKs1
    rw [if_neg e, if_neg e, hX _ _ (by omega) (by omega)]
    refine ⟨(h.2.2.2 j a b).1, fun z => ⟨((h.2.2.2 j a b).2 z).1, ((h.2.2.2 j a b).2 z).2.1, gSec_of ((h.2.2.2 j a b).2 z).2.2 ((h.2.2.2 j a b).2 z).1 (fun c i x => hX c i (by omega) (by omega))⟩⟩
