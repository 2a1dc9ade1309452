/-! THE LAW: a contract a case, and what they come to -/
section LW
variable {G : GT} {d : Nat} {h : AH}

set_option maxHeartbeats 4000000 in
set_option maxRecDepth 100000 in
theorem s_thrown {m : Nat} {k : Int32} {vs : List Value} (am : At h m (.inr (10, .int k :: vs))) : RQ G mX12_thrown d 0 [some (.ref m)] [] h (Ri fun v h2 => v = k ∧ h2 = h) := by
  refine tX12_thrown_0  (r := ?_)
  refine tX12_thrown_1 (ha := (by first | assumption | (repeat (first | assumption | exact At.set_eq2 (by first | omega | (simp only [hset, hnew]; omega) | rfl | decide) | exact At.new_eq2 _ _ (by first | omega | (simp only [hset, hnew]; omega) | rfl | decide) | refine At.set_ne ?_ (by first | omega | (simp only [hset, hnew]; omega) | rfl | decide) | refine At.new_ne ?_)))) (hv := rfl) (r := ?_)
  refine tX12_thrown_4  (hP := ?_)
  exact ⟨_, rfl, rfl, rfl⟩

def Kc_feed (G : GT) (d2 x m out : Nat) (J : Nat → AH → Prop) (n : Nat) : Prop := ∀ (h : AH) (a0 a1 a2 a3 a4 : Int32), J n h → RQ G mL_feed d2 0 [some (.ref x), some (.int a0), some (.int a1), some (.int a2), some (.int a3), some (.int a4), some (.ref out), none] [] h (Ri fun k h1 => (∃ vs, At h1 m (.inr (10, vs))) ∧ RQ G mX12_feed d2 0 [some (.ref m), some (.int a0), some (.int a1), some (.int a2), some (.int a3), some (.int a4), none, none, none, none, none, none] [] h1 (Ri fun b h2 => (∃ vs, At h2 m (.inr (10, .int k :: vs))) ∧ (k = 0 → ∃ f : Nat → Int64, At h2 out (.inl (2, 1, .inr (.inl f))) ∧ f 0 = b.toInt64) ∧ J (n + 1) h2))
set_option maxHeartbeats 4000000 in
set_option maxRecDepth 100000 in
theorem lc_0 {d2 x m out i n : Nat} {J : Nat → AH → Prop} {P : OC → AH → Prop} {x5 x6 x7 x8 : Option Value} (hd : d2 + 1 ≤ d) (hg : gN G < 2147483648) (hi : i + 5 < gN G) (C : Kc_feed G d2 x m out J n) (hj : J n h) (kn : ∀ (h2 : AH) (x5 x6 x7 x8 : Option Value), J (n + 1) h2 → RQ G mL_law d 2189 [some (.ref (OLD + 999)), some (.ref x), some (.ref m), some (.ref out), some (.int (nI i)), x5, x6, x7, x8] [] h2 P) : RQ G mL_law d 212 [some (.ref (OLD + 999)), some (.ref x), some (.ref m), some (.ref out), some (.int (nI i)), x5, x6, x7, x8] [] h P := by
  refine tL_law_212  (r := ?_)
  refine tL_law_213  (r := ?_)
  refine tL_law_214  (r := ?_)
  refine tL_law_216  (r := ?_)
  refine tL_law_217  (r := ?_)
  refine tL_law_218 (hx := (nI_add _ _)) (hj := (by omega)) (hn := hg) (r := ?_)
  refine tL_law_219  (r := ?_)
  refine tL_law_220  (r := ?_)
  refine tL_law_222  (r := ?_)
  refine tL_law_223  (r := ?_)
  refine tL_law_224 (hx := (nI_add _ _)) (hj := (by omega)) (hn := hg) (r := ?_)
  refine tL_law_225  (r := ?_)
  refine tL_law_226  (r := ?_)
  refine tL_law_228  (r := ?_)
  refine tL_law_229  (r := ?_)
  refine tL_law_230 (hx := (nI_add _ _)) (hj := (by omega)) (hn := hg) (r := ?_)
  refine tL_law_231  (r := ?_)
  refine tL_law_232  (r := ?_)
  refine tL_law_234  (r := ?_)
  refine tL_law_235  (r := ?_)
  refine tL_law_236 (hx := (nI_add _ _)) (hj := (by omega)) (hn := hg) (r := ?_)
  refine tL_law_237  (r := ?_)
  refine tL_law_238  (r := ?_)
  refine tL_law_240  (r := ?_)
  refine tL_law_241  (r := ?_)
  refine tL_law_242 (hx := (nI_add _ _)) (hj := (by omega)) (hn := hg) (r := ?_)
  refine tL_law_243  (r := ?_)
  refine tL_law_244 (hd := (by omega)) (call := C _ _ _ _ _ _ hj) (k := ?_)
  rintro k1 h1 ⟨⟨vs1, am1⟩, c1⟩
  refine tL_law_247  (r := ?_)
  refine tL_law_249  (r := ?_)
  refine tL_law_250  (r := ?_)
  refine tL_law_251  (r := ?_)
  refine tL_law_253  (r := ?_)
  refine tL_law_254  (r := ?_)
  refine tL_law_255 (hx := (nI_add _ _)) (hj := (by omega)) (hn := hg) (r := ?_)
  refine tL_law_256  (r := ?_)
  refine tL_law_257  (r := ?_)
  refine tL_law_259  (r := ?_)
  refine tL_law_260  (r := ?_)
  refine tL_law_261 (hx := (nI_add _ _)) (hj := (by omega)) (hn := hg) (r := ?_)
  refine tL_law_262  (r := ?_)
  refine tL_law_263  (r := ?_)
  refine tL_law_265  (r := ?_)
  refine tL_law_266  (r := ?_)
  refine tL_law_267 (hx := (nI_add _ _)) (hj := (by omega)) (hn := hg) (r := ?_)
  refine tL_law_268  (r := ?_)
  refine tL_law_269  (r := ?_)
  refine tL_law_271  (r := ?_)
  refine tL_law_272  (r := ?_)
  refine tL_law_273 (hx := (nI_add _ _)) (hj := (by omega)) (hn := hg) (r := ?_)
  refine tL_law_274  (r := ?_)
  refine tL_law_275  (r := ?_)
  refine tL_law_277  (r := ?_)
  refine tL_law_278  (r := ?_)
  refine tL_law_279 (hx := (nI_add _ _)) (hj := (by omega)) (hn := hg) (r := ?_)
  refine tL_law_280 (hd := (by omega)) (ha := (by first | assumption | (repeat (first | assumption | exact At.set_eq2 (by first | omega | (simp only [hset, hnew]; omega) | rfl | decide) | exact At.new_eq2 _ _ (by first | omega | (simp only [hset, hnew]; omega) | rfl | decide) | refine At.set_ne ?_ (by first | omega | (simp only [hset, hnew]; omega) | rfl | decide) | refine At.new_ne ?_)))) (call := c1) (k := ?_)
  rintro b1 h2 ⟨⟨vs2, am2⟩, hout, hj2⟩
  refine tL_law_283  (r := ?_)
  refine tL_law_285  (r := ?_)
  refine tL_law_286 (hd := (by omega)) (ha := (by first | assumption | (repeat (first | assumption | exact At.set_eq2 (by first | omega | (simp only [hset, hnew]; omega) | rfl | decide) | exact At.new_eq2 _ _ (by first | omega | (simp only [hset, hnew]; omega) | rfl | decide) | refine At.set_ne ?_ (by first | omega | (simp only [hset, hnew]; omega) | rfl | decide) | refine At.new_ne ?_)))) (call := s_thrown (d := d2) am2) (k := ?_)
  rintro v3 h3 ⟨rfl, rfl⟩
  refine tL_law_289  (r := ?_)
  refine tL_law_291  (kf := fun c_ => by exfalso; exact c_ rfl) (kt := fun _ => ?_)
  refine tL_law_296  (r := ?_)
  refine tL_law_298  (kt := fun c_298 => ?_) (kf := fun c_298 => ?_)
  · refine tL_law_313 (r := ?_)
    exact kn _ _ _ _ _ hj2
  · obtain ⟨f, af, hf⟩ := hout (by simpa using c_298)
    refine tL_law_301  (r := ?_)
    refine tL_law_302  (r := ?_)
    refine tL_law_303 (ha := (by first | assumption | (repeat (first | assumption | exact At.set_eq2 (by first | omega | (simp only [hset, hnew]; omega) | rfl | decide) | exact At.new_eq2 _ _ (by first | omega | (simp only [hset, hnew]; omega) | rfl | decide) | refine At.set_ne ?_ (by first | omega | (simp only [hset, hnew]; omega) | rfl | decide) | refine At.new_ne ?_)))) (hx := rfl) (hj := (by decide)) (hn := (by decide)) (r := ?_)
    refine tL_law_304  (r := ?_)
    refine tL_law_306  (r := ?_)
    refine tL_law_307  (r := ?_)
    refine tL_law_308  (kf := fun c_ => by exfalso; exact c_ ((lg_cmp_eq _ _).mpr hf)) (kt := fun _ => ?_)
    refine tL_law_313 (r := ?_)
    exact kn _ _ _ _ _ hj2

def Kc_trim (G : GT) (d2 x m out : Nat) (J : Nat → AH → Prop) (n : Nat) : Prop := ∀ (h : AH) (a0 : Int32), J n h → RQ G mL_trim d2 0 [some (.ref x), some (.int a0), some (.ref out), none] [] h (Ri fun k h1 => (∃ vs, At h1 m (.inr (10, vs))) ∧ RQ G mX12_trim d2 0 [some (.ref m), some (.int a0)] [] h1 (Ri fun b h2 => (∃ vs, At h2 m (.inr (10, .int k :: vs))) ∧ (k = 0 → ∃ f : Nat → Int64, At h2 out (.inl (2, 1, .inr (.inl f))) ∧ f 0 = b.toInt64) ∧ J (n + 1) h2))
set_option maxHeartbeats 4000000 in
set_option maxRecDepth 100000 in
theorem lc_1 {d2 x m out i n : Nat} {J : Nat → AH → Prop} {P : OC → AH → Prop} {x5 x6 x7 x8 : Option Value} (hd : d2 + 1 ≤ d) (hg : gN G < 2147483648) (hi : i + 5 < gN G) (C : Kc_trim G d2 x m out J n) (hj : J n h) (kn : ∀ (h2 : AH) (x5 x6 x7 x8 : Option Value), J (n + 1) h2 → RQ G mL_law d 2189 [some (.ref (OLD + 999)), some (.ref x), some (.ref m), some (.ref out), some (.int (nI i)), x5, x6, x7, x8] [] h2 P) : RQ G mL_law d 316 [some (.ref (OLD + 999)), some (.ref x), some (.ref m), some (.ref out), some (.int (nI i)), x5, x6, x7, x8] [] h P := by
  refine tL_law_316  (r := ?_)
  refine tL_law_317  (r := ?_)
  refine tL_law_318  (r := ?_)
  refine tL_law_320  (r := ?_)
  refine tL_law_321  (r := ?_)
  refine tL_law_322 (hx := (nI_add _ _)) (hj := (by omega)) (hn := hg) (r := ?_)
  refine tL_law_323  (r := ?_)
  refine tL_law_324 (hd := (by omega)) (call := C _ _ hj) (k := ?_)
  rintro k1 h1 ⟨⟨vs1, am1⟩, c1⟩
  refine tL_law_327  (r := ?_)
  refine tL_law_329  (r := ?_)
  refine tL_law_330  (r := ?_)
  refine tL_law_331  (r := ?_)
  refine tL_law_333  (r := ?_)
  refine tL_law_334  (r := ?_)
  refine tL_law_335 (hx := (nI_add _ _)) (hj := (by omega)) (hn := hg) (r := ?_)
  refine tL_law_336 (hd := (by omega)) (ha := (by first | assumption | (repeat (first | assumption | exact At.set_eq2 (by first | omega | (simp only [hset, hnew]; omega) | rfl | decide) | exact At.new_eq2 _ _ (by first | omega | (simp only [hset, hnew]; omega) | rfl | decide) | refine At.set_ne ?_ (by first | omega | (simp only [hset, hnew]; omega) | rfl | decide) | refine At.new_ne ?_)))) (call := c1) (k := ?_)
  rintro b1 h2 ⟨⟨vs2, am2⟩, hout, hj2⟩
  refine tL_law_339  (r := ?_)
  refine tL_law_341  (r := ?_)
  refine tL_law_342 (hd := (by omega)) (ha := (by first | assumption | (repeat (first | assumption | exact At.set_eq2 (by first | omega | (simp only [hset, hnew]; omega) | rfl | decide) | exact At.new_eq2 _ _ (by first | omega | (simp only [hset, hnew]; omega) | rfl | decide) | refine At.set_ne ?_ (by first | omega | (simp only [hset, hnew]; omega) | rfl | decide) | refine At.new_ne ?_)))) (call := s_thrown (d := d2) am2) (k := ?_)
  rintro v3 h3 ⟨rfl, rfl⟩
  refine tL_law_345  (r := ?_)
  refine tL_law_347  (kf := fun c_ => by exfalso; exact c_ rfl) (kt := fun _ => ?_)
  refine tL_law_352  (r := ?_)
  refine tL_law_354  (kt := fun c_354 => ?_) (kf := fun c_354 => ?_)
  · refine tL_law_369 (r := ?_)
    exact kn _ _ _ _ _ hj2
  · obtain ⟨f, af, hf⟩ := hout (by simpa using c_354)
    refine tL_law_357  (r := ?_)
    refine tL_law_358  (r := ?_)
    refine tL_law_359 (ha := (by first | assumption | (repeat (first | assumption | exact At.set_eq2 (by first | omega | (simp only [hset, hnew]; omega) | rfl | decide) | exact At.new_eq2 _ _ (by first | omega | (simp only [hset, hnew]; omega) | rfl | decide) | refine At.set_ne ?_ (by first | omega | (simp only [hset, hnew]; omega) | rfl | decide) | refine At.new_ne ?_)))) (hx := rfl) (hj := (by decide)) (hn := (by decide)) (r := ?_)
    refine tL_law_360  (r := ?_)
    refine tL_law_362  (r := ?_)
    refine tL_law_363  (r := ?_)
    refine tL_law_364  (kf := fun c_ => by exfalso; exact c_ ((lg_cmp_eq _ _).mpr hf)) (kt := fun _ => ?_)
    refine tL_law_369 (r := ?_)
    exact kn _ _ _ _ _ hj2

def Kc_teach (G : GT) (d2 x m _out : Nat) (J : Nat → AH → Prop) (n : Nat) : Prop := ∀ (h : AH), J n h → (∃ vs, At h x (.inr (8, vs))) ∧ RQ G mX10_teach d2 0 [some (.ref x), none] [] h (Ri fun a h1 => (∃ vs, At h1 m (.inr (10, vs))) ∧ RQ G mX12_teach d2 0 [some (.ref m)] [] h1 (Ri fun b h2 => a = b ∧ J (n + 1) h2))
set_option maxHeartbeats 4000000 in
set_option maxRecDepth 100000 in
theorem lc_2 {d2 x m out i n : Nat} {J : Nat → AH → Prop} {P : OC → AH → Prop} {x5 x6 x7 x8 : Option Value} (hd : d2 + 1 ≤ d) (hg : gN G < 2147483648) (hi : i + 5 < gN G) (C : Kc_teach G d2 x m out J n) (hj : J n h) (kn : ∀ (h2 : AH) (x5 x6 x7 x8 : Option Value), J (n + 1) h2 → RQ G mL_law d 2189 [some (.ref (OLD + 999)), some (.ref x), some (.ref m), some (.ref out), some (.int (nI i)), x5, x6, x7, x8] [] h2 P) : RQ G mL_law d 372 [some (.ref (OLD + 999)), some (.ref x), some (.ref m), some (.ref out), some (.int (nI i)), x5, x6, x7, x8] [] h P := by
  obtain ⟨⟨vs0, ax0⟩, c0⟩ := C _ hj
  refine tL_law_372  (r := ?_)
  refine tL_law_373 (hd := (by omega)) (ha := (by first | assumption | (repeat (first | assumption | exact At.set_eq2 (by first | omega | (simp only [hset, hnew]; omega) | rfl | decide) | exact At.new_eq2 _ _ (by first | omega | (simp only [hset, hnew]; omega) | rfl | decide) | refine At.set_ne ?_ (by first | omega | (simp only [hset, hnew]; omega) | rfl | decide) | refine At.new_ne ?_)))) (call := c0) (k := ?_)
  rintro k1 h1 ⟨⟨vs1, am1⟩, c1⟩
  refine tL_law_376  (r := ?_)
  refine tL_law_377 (hd := (by omega)) (ha := (by first | assumption | (repeat (first | assumption | exact At.set_eq2 (by first | omega | (simp only [hset, hnew]; omega) | rfl | decide) | exact At.new_eq2 _ _ (by first | omega | (simp only [hset, hnew]; omega) | rfl | decide) | refine At.set_ne ?_ (by first | omega | (simp only [hset, hnew]; omega) | rfl | decide) | refine At.new_ne ?_)))) (call := c1) (k := ?_)
  rintro b1 h2 ⟨rfl, hj2⟩
  refine tL_law_380  (kf := fun c_ => by exfalso; exact c_ rfl) (kt := fun _ => ?_)
  exact kn _ _ _ _ _ hj2

def Kc_errorAt (G : GT) (d2 x m _out : Nat) (J : Nat → AH → Prop) (n : Nat) : Prop := ∀ (h : AH), J n h → (∃ vs, At h x (.inr (8, vs))) ∧ RQ G mX10_errorAt d2 0 [some (.ref x)] [] h (Ri fun a h1 => (∃ vs, At h1 m (.inr (10, vs))) ∧ RQ G mX12_errorAt d2 0 [some (.ref m)] [] h1 (Ri fun b h2 => a = b ∧ J (n + 1) h2))
set_option maxHeartbeats 4000000 in
set_option maxRecDepth 100000 in
theorem lc_3 {d2 x m out i n : Nat} {J : Nat → AH → Prop} {P : OC → AH → Prop} {x5 x6 x7 x8 : Option Value} (hd : d2 + 1 ≤ d) (hg : gN G < 2147483648) (hi : i + 5 < gN G) (C : Kc_errorAt G d2 x m out J n) (hj : J n h) (kn : ∀ (h2 : AH) (x5 x6 x7 x8 : Option Value), J (n + 1) h2 → RQ G mL_law d 2189 [some (.ref (OLD + 999)), some (.ref x), some (.ref m), some (.ref out), some (.int (nI i)), x5, x6, x7, x8] [] h2 P) : RQ G mL_law d 385 [some (.ref (OLD + 999)), some (.ref x), some (.ref m), some (.ref out), some (.int (nI i)), x5, x6, x7, x8] [] h P := by
  obtain ⟨⟨vs0, ax0⟩, c0⟩ := C _ hj
  refine tL_law_385  (r := ?_)
  refine tL_law_386 (hd := (by omega)) (ha := (by first | assumption | (repeat (first | assumption | exact At.set_eq2 (by first | omega | (simp only [hset, hnew]; omega) | rfl | decide) | exact At.new_eq2 _ _ (by first | omega | (simp only [hset, hnew]; omega) | rfl | decide) | refine At.set_ne ?_ (by first | omega | (simp only [hset, hnew]; omega) | rfl | decide) | refine At.new_ne ?_)))) (call := c0) (k := ?_)
  rintro k1 h1 ⟨⟨vs1, am1⟩, c1⟩
  refine tL_law_389  (r := ?_)
  refine tL_law_390 (hd := (by omega)) (ha := (by first | assumption | (repeat (first | assumption | exact At.set_eq2 (by first | omega | (simp only [hset, hnew]; omega) | rfl | decide) | exact At.new_eq2 _ _ (by first | omega | (simp only [hset, hnew]; omega) | rfl | decide) | refine At.set_ne ?_ (by first | omega | (simp only [hset, hnew]; omega) | rfl | decide) | refine At.new_ne ?_)))) (call := c1) (k := ?_)
  rintro b1 h2 ⟨rfl, hj2⟩
  refine tL_law_393  (kf := fun c_ => by exfalso; exact c_ rfl) (kt := fun _ => ?_)
  exact kn _ _ _ _ _ hj2

def Kc_labels (G : GT) (d2 x m _out : Nat) (J : Nat → AH → Prop) (n : Nat) : Prop := ∀ (h : AH), J n h → (∃ vs, At h x (.inr (8, vs))) ∧ RQ G mX10_labels d2 0 [some (.ref x)] [] h (Ri fun a h1 => (∃ vs, At h1 m (.inr (10, vs))) ∧ RQ G mX12_labels d2 0 [some (.ref m)] [] h1 (Ri fun b h2 => a = b ∧ J (n + 1) h2))
set_option maxHeartbeats 4000000 in
set_option maxRecDepth 100000 in
theorem lc_4 {d2 x m out i n : Nat} {J : Nat → AH → Prop} {P : OC → AH → Prop} {x5 x6 x7 x8 : Option Value} (hd : d2 + 1 ≤ d) (hg : gN G < 2147483648) (hi : i + 5 < gN G) (C : Kc_labels G d2 x m out J n) (hj : J n h) (kn : ∀ (h2 : AH) (x5 x6 x7 x8 : Option Value), J (n + 1) h2 → RQ G mL_law d 2189 [some (.ref (OLD + 999)), some (.ref x), some (.ref m), some (.ref out), some (.int (nI i)), x5, x6, x7, x8] [] h2 P) : RQ G mL_law d 398 [some (.ref (OLD + 999)), some (.ref x), some (.ref m), some (.ref out), some (.int (nI i)), x5, x6, x7, x8] [] h P := by
  obtain ⟨⟨vs0, ax0⟩, c0⟩ := C _ hj
  refine tL_law_398  (r := ?_)
  refine tL_law_399 (hd := (by omega)) (ha := (by first | assumption | (repeat (first | assumption | exact At.set_eq2 (by first | omega | (simp only [hset, hnew]; omega) | rfl | decide) | exact At.new_eq2 _ _ (by first | omega | (simp only [hset, hnew]; omega) | rfl | decide) | refine At.set_ne ?_ (by first | omega | (simp only [hset, hnew]; omega) | rfl | decide) | refine At.new_ne ?_)))) (call := c0) (k := ?_)
  rintro k1 h1 ⟨⟨vs1, am1⟩, c1⟩
  refine tL_law_402  (r := ?_)
  refine tL_law_403 (hd := (by omega)) (ha := (by first | assumption | (repeat (first | assumption | exact At.set_eq2 (by first | omega | (simp only [hset, hnew]; omega) | rfl | decide) | exact At.new_eq2 _ _ (by first | omega | (simp only [hset, hnew]; omega) | rfl | decide) | refine At.set_ne ?_ (by first | omega | (simp only [hset, hnew]; omega) | rfl | decide) | refine At.new_ne ?_)))) (call := c1) (k := ?_)
  rintro b1 h2 ⟨rfl, hj2⟩
  refine tL_law_406  (kf := fun c_ => by exfalso; exact c_ rfl) (kt := fun _ => ?_)
  exact kn _ _ _ _ _ hj2

def Kc_jars (G : GT) (d2 x m _out : Nat) (J : Nat → AH → Prop) (n : Nat) : Prop := ∀ (h : AH), J n h → (∃ vs, At h x (.inr (8, vs))) ∧ RQ G mX10_jars d2 0 [some (.ref x)] [] h (Ri fun a h1 => (∃ vs, At h1 m (.inr (10, vs))) ∧ RQ G mX12_jars d2 0 [some (.ref m)] [] h1 (Ri fun b h2 => a = b ∧ J (n + 1) h2))
set_option maxHeartbeats 4000000 in
set_option maxRecDepth 100000 in
theorem lc_5 {d2 x m out i n : Nat} {J : Nat → AH → Prop} {P : OC → AH → Prop} {x5 x6 x7 x8 : Option Value} (hd : d2 + 1 ≤ d) (hg : gN G < 2147483648) (hi : i + 5 < gN G) (C : Kc_jars G d2 x m out J n) (hj : J n h) (kn : ∀ (h2 : AH) (x5 x6 x7 x8 : Option Value), J (n + 1) h2 → RQ G mL_law d 2189 [some (.ref (OLD + 999)), some (.ref x), some (.ref m), some (.ref out), some (.int (nI i)), x5, x6, x7, x8] [] h2 P) : RQ G mL_law d 411 [some (.ref (OLD + 999)), some (.ref x), some (.ref m), some (.ref out), some (.int (nI i)), x5, x6, x7, x8] [] h P := by
  obtain ⟨⟨vs0, ax0⟩, c0⟩ := C _ hj
  refine tL_law_411  (r := ?_)
  refine tL_law_412 (hd := (by omega)) (ha := (by first | assumption | (repeat (first | assumption | exact At.set_eq2 (by first | omega | (simp only [hset, hnew]; omega) | rfl | decide) | exact At.new_eq2 _ _ (by first | omega | (simp only [hset, hnew]; omega) | rfl | decide) | refine At.set_ne ?_ (by first | omega | (simp only [hset, hnew]; omega) | rfl | decide) | refine At.new_ne ?_)))) (call := c0) (k := ?_)
  rintro k1 h1 ⟨⟨vs1, am1⟩, c1⟩
  refine tL_law_415  (r := ?_)
  refine tL_law_416 (hd := (by omega)) (ha := (by first | assumption | (repeat (first | assumption | exact At.set_eq2 (by first | omega | (simp only [hset, hnew]; omega) | rfl | decide) | exact At.new_eq2 _ _ (by first | omega | (simp only [hset, hnew]; omega) | rfl | decide) | refine At.set_ne ?_ (by first | omega | (simp only [hset, hnew]; omega) | rfl | decide) | refine At.new_ne ?_)))) (call := c1) (k := ?_)
  rintro b1 h2 ⟨rfl, hj2⟩
  refine tL_law_419  (kf := fun c_ => by exfalso; exact c_ rfl) (kt := fun _ => ?_)
  exact kn _ _ _ _ _ hj2

def Kc_lids (G : GT) (d2 x m _out : Nat) (J : Nat → AH → Prop) (n : Nat) : Prop := ∀ (h : AH), J n h → (∃ vs, At h x (.inr (8, vs))) ∧ RQ G mX10_lids d2 0 [some (.ref x)] [] h (Ri fun a h1 => (∃ vs, At h1 m (.inr (10, vs))) ∧ RQ G mX12_lids d2 0 [some (.ref m)] [] h1 (Ri fun b h2 => a = b ∧ J (n + 1) h2))
set_option maxHeartbeats 4000000 in
set_option maxRecDepth 100000 in
theorem lc_6 {d2 x m out i n : Nat} {J : Nat → AH → Prop} {P : OC → AH → Prop} {x5 x6 x7 x8 : Option Value} (hd : d2 + 1 ≤ d) (hg : gN G < 2147483648) (hi : i + 5 < gN G) (C : Kc_lids G d2 x m out J n) (hj : J n h) (kn : ∀ (h2 : AH) (x5 x6 x7 x8 : Option Value), J (n + 1) h2 → RQ G mL_law d 2189 [some (.ref (OLD + 999)), some (.ref x), some (.ref m), some (.ref out), some (.int (nI i)), x5, x6, x7, x8] [] h2 P) : RQ G mL_law d 424 [some (.ref (OLD + 999)), some (.ref x), some (.ref m), some (.ref out), some (.int (nI i)), x5, x6, x7, x8] [] h P := by
  obtain ⟨⟨vs0, ax0⟩, c0⟩ := C _ hj
  refine tL_law_424  (r := ?_)
  refine tL_law_425 (hd := (by omega)) (ha := (by first | assumption | (repeat (first | assumption | exact At.set_eq2 (by first | omega | (simp only [hset, hnew]; omega) | rfl | decide) | exact At.new_eq2 _ _ (by first | omega | (simp only [hset, hnew]; omega) | rfl | decide) | refine At.set_ne ?_ (by first | omega | (simp only [hset, hnew]; omega) | rfl | decide) | refine At.new_ne ?_)))) (call := c0) (k := ?_)
  rintro k1 h1 ⟨⟨vs1, am1⟩, c1⟩
  refine tL_law_428  (r := ?_)
  refine tL_law_429 (hd := (by omega)) (ha := (by first | assumption | (repeat (first | assumption | exact At.set_eq2 (by first | omega | (simp only [hset, hnew]; omega) | rfl | decide) | exact At.new_eq2 _ _ (by first | omega | (simp only [hset, hnew]; omega) | rfl | decide) | refine At.set_ne ?_ (by first | omega | (simp only [hset, hnew]; omega) | rfl | decide) | refine At.new_ne ?_)))) (call := c1) (k := ?_)
  rintro b1 h2 ⟨rfl, hj2⟩
  refine tL_law_432  (kf := fun c_ => by exfalso; exact c_ rfl) (kt := fun _ => ?_)
  exact kn _ _ _ _ _ hj2

def Kc_days (G : GT) (d2 x m _out : Nat) (J : Nat → AH → Prop) (n : Nat) : Prop := ∀ (h : AH), J n h → (∃ vs, At h x (.inr (8, vs))) ∧ RQ G mX10_days d2 0 [some (.ref x)] [] h (Ri fun a h1 => (∃ vs, At h1 m (.inr (10, vs))) ∧ RQ G mX12_days d2 0 [some (.ref m)] [] h1 (Ri fun b h2 => a = b ∧ J (n + 1) h2))
set_option maxHeartbeats 4000000 in
set_option maxRecDepth 100000 in
theorem lc_7 {d2 x m out i n : Nat} {J : Nat → AH → Prop} {P : OC → AH → Prop} {x5 x6 x7 x8 : Option Value} (hd : d2 + 1 ≤ d) (hg : gN G < 2147483648) (hi : i + 5 < gN G) (C : Kc_days G d2 x m out J n) (hj : J n h) (kn : ∀ (h2 : AH) (x5 x6 x7 x8 : Option Value), J (n + 1) h2 → RQ G mL_law d 2189 [some (.ref (OLD + 999)), some (.ref x), some (.ref m), some (.ref out), some (.int (nI i)), x5, x6, x7, x8] [] h2 P) : RQ G mL_law d 437 [some (.ref (OLD + 999)), some (.ref x), some (.ref m), some (.ref out), some (.int (nI i)), x5, x6, x7, x8] [] h P := by
  obtain ⟨⟨vs0, ax0⟩, c0⟩ := C _ hj
  refine tL_law_437  (r := ?_)
  refine tL_law_438 (hd := (by omega)) (ha := (by first | assumption | (repeat (first | assumption | exact At.set_eq2 (by first | omega | (simp only [hset, hnew]; omega) | rfl | decide) | exact At.new_eq2 _ _ (by first | omega | (simp only [hset, hnew]; omega) | rfl | decide) | refine At.set_ne ?_ (by first | omega | (simp only [hset, hnew]; omega) | rfl | decide) | refine At.new_ne ?_)))) (call := c0) (k := ?_)
  rintro k1 h1 ⟨⟨vs1, am1⟩, c1⟩
  refine tL_law_441  (r := ?_)
  refine tL_law_442 (hd := (by omega)) (ha := (by first | assumption | (repeat (first | assumption | exact At.set_eq2 (by first | omega | (simp only [hset, hnew]; omega) | rfl | decide) | exact At.new_eq2 _ _ (by first | omega | (simp only [hset, hnew]; omega) | rfl | decide) | refine At.set_ne ?_ (by first | omega | (simp only [hset, hnew]; omega) | rfl | decide) | refine At.new_ne ?_)))) (call := c1) (k := ?_)
  rintro b1 h2 ⟨rfl, hj2⟩
  refine tL_law_445  (kf := fun c_ => by exfalso; exact c_ rfl) (kt := fun _ => ?_)
  exact kn _ _ _ _ _ hj2

def Kc_alliances (G : GT) (d2 x m _out : Nat) (J : Nat → AH → Prop) (n : Nat) : Prop := ∀ (h : AH), J n h → (∃ vs, At h x (.inr (8, vs))) ∧ RQ G mX10_alliances d2 0 [some (.ref x), none, none] [] h (Ri fun a h1 => (∃ vs, At h1 m (.inr (10, vs))) ∧ RQ G mX12_alliances d2 0 [some (.ref m)] [] h1 (Ri fun b h2 => a = b ∧ J (n + 1) h2))
set_option maxHeartbeats 4000000 in
set_option maxRecDepth 100000 in
theorem lc_8 {d2 x m out i n : Nat} {J : Nat → AH → Prop} {P : OC → AH → Prop} {x5 x6 x7 x8 : Option Value} (hd : d2 + 1 ≤ d) (hg : gN G < 2147483648) (hi : i + 5 < gN G) (C : Kc_alliances G d2 x m out J n) (hj : J n h) (kn : ∀ (h2 : AH) (x5 x6 x7 x8 : Option Value), J (n + 1) h2 → RQ G mL_law d 2189 [some (.ref (OLD + 999)), some (.ref x), some (.ref m), some (.ref out), some (.int (nI i)), x5, x6, x7, x8] [] h2 P) : RQ G mL_law d 450 [some (.ref (OLD + 999)), some (.ref x), some (.ref m), some (.ref out), some (.int (nI i)), x5, x6, x7, x8] [] h P := by
  obtain ⟨⟨vs0, ax0⟩, c0⟩ := C _ hj
  refine tL_law_450  (r := ?_)
  refine tL_law_451 (hd := (by omega)) (ha := (by first | assumption | (repeat (first | assumption | exact At.set_eq2 (by first | omega | (simp only [hset, hnew]; omega) | rfl | decide) | exact At.new_eq2 _ _ (by first | omega | (simp only [hset, hnew]; omega) | rfl | decide) | refine At.set_ne ?_ (by first | omega | (simp only [hset, hnew]; omega) | rfl | decide) | refine At.new_ne ?_)))) (call := c0) (k := ?_)
  rintro k1 h1 ⟨⟨vs1, am1⟩, c1⟩
  refine tL_law_454  (r := ?_)
  refine tL_law_455 (hd := (by omega)) (ha := (by first | assumption | (repeat (first | assumption | exact At.set_eq2 (by first | omega | (simp only [hset, hnew]; omega) | rfl | decide) | exact At.new_eq2 _ _ (by first | omega | (simp only [hset, hnew]; omega) | rfl | decide) | refine At.set_ne ?_ (by first | omega | (simp only [hset, hnew]; omega) | rfl | decide) | refine At.new_ne ?_)))) (call := c1) (k := ?_)
  rintro b1 h2 ⟨rfl, hj2⟩
  refine tL_law_458  (kf := fun c_ => by exfalso; exact c_ rfl) (kt := fun _ => ?_)
  exact kn _ _ _ _ _ hj2

def Kc_beansIn (G : GT) (d2 x m out : Nat) (J : Nat → AH → Prop) (n : Nat) : Prop := ∀ (h : AH) (a0 a1 : Int32), J n h → RQ G mL_beansIn d2 0 [some (.ref x), some (.int a0), some (.int a1), some (.ref out), none] [] h (Ri fun k h1 => (∃ vs, At h1 m (.inr (10, vs))) ∧ RQ G mX12_beansIn d2 0 [some (.ref m), some (.int a0), some (.int a1)] [] h1 (Ri fun b h2 => (∃ vs, At h2 m (.inr (10, .int k :: vs))) ∧ (k = 0 → ∃ f : Nat → Int64, At h2 out (.inl (2, 1, .inr (.inl f))) ∧ f 0 = b.toInt64) ∧ J (n + 1) h2))
set_option maxHeartbeats 4000000 in
set_option maxRecDepth 100000 in
theorem lc_9 {d2 x m out i n : Nat} {J : Nat → AH → Prop} {P : OC → AH → Prop} {x5 x6 x7 x8 : Option Value} (hd : d2 + 1 ≤ d) (hg : gN G < 2147483648) (hi : i + 5 < gN G) (C : Kc_beansIn G d2 x m out J n) (hj : J n h) (kn : ∀ (h2 : AH) (x5 x6 x7 x8 : Option Value), J (n + 1) h2 → RQ G mL_law d 2189 [some (.ref (OLD + 999)), some (.ref x), some (.ref m), some (.ref out), some (.int (nI i)), x5, x6, x7, x8] [] h2 P) : RQ G mL_law d 463 [some (.ref (OLD + 999)), some (.ref x), some (.ref m), some (.ref out), some (.int (nI i)), x5, x6, x7, x8] [] h P := by
  refine tL_law_463  (r := ?_)
  refine tL_law_464  (r := ?_)
  refine tL_law_465  (r := ?_)
  refine tL_law_467  (r := ?_)
  refine tL_law_468  (r := ?_)
  refine tL_law_469 (hx := (nI_add _ _)) (hj := (by omega)) (hn := hg) (r := ?_)
  refine tL_law_470  (r := ?_)
  refine tL_law_471  (r := ?_)
  refine tL_law_473  (r := ?_)
  refine tL_law_474  (r := ?_)
  refine tL_law_475 (hx := (nI_add _ _)) (hj := (by omega)) (hn := hg) (r := ?_)
  refine tL_law_476  (r := ?_)
  refine tL_law_477 (hd := (by omega)) (call := C _ _ _ hj) (k := ?_)
  rintro k1 h1 ⟨⟨vs1, am1⟩, c1⟩
  refine tL_law_480  (r := ?_)
  refine tL_law_482  (r := ?_)
  refine tL_law_483  (r := ?_)
  refine tL_law_484  (r := ?_)
  refine tL_law_486  (r := ?_)
  refine tL_law_487  (r := ?_)
  refine tL_law_488 (hx := (nI_add _ _)) (hj := (by omega)) (hn := hg) (r := ?_)
  refine tL_law_489  (r := ?_)
  refine tL_law_490  (r := ?_)
  refine tL_law_492  (r := ?_)
  refine tL_law_493  (r := ?_)
  refine tL_law_494 (hx := (nI_add _ _)) (hj := (by omega)) (hn := hg) (r := ?_)
  refine tL_law_495 (hd := (by omega)) (ha := (by first | assumption | (repeat (first | assumption | exact At.set_eq2 (by first | omega | (simp only [hset, hnew]; omega) | rfl | decide) | exact At.new_eq2 _ _ (by first | omega | (simp only [hset, hnew]; omega) | rfl | decide) | refine At.set_ne ?_ (by first | omega | (simp only [hset, hnew]; omega) | rfl | decide) | refine At.new_ne ?_)))) (call := c1) (k := ?_)
  rintro b1 h2 ⟨⟨vs2, am2⟩, hout, hj2⟩
  refine tL_law_498  (r := ?_)
  refine tL_law_500  (r := ?_)
  refine tL_law_501 (hd := (by omega)) (ha := (by first | assumption | (repeat (first | assumption | exact At.set_eq2 (by first | omega | (simp only [hset, hnew]; omega) | rfl | decide) | exact At.new_eq2 _ _ (by first | omega | (simp only [hset, hnew]; omega) | rfl | decide) | refine At.set_ne ?_ (by first | omega | (simp only [hset, hnew]; omega) | rfl | decide) | refine At.new_ne ?_)))) (call := s_thrown (d := d2) am2) (k := ?_)
  rintro v3 h3 ⟨rfl, rfl⟩
  refine tL_law_504  (r := ?_)
  refine tL_law_506  (kf := fun c_ => by exfalso; exact c_ rfl) (kt := fun _ => ?_)
  refine tL_law_511  (r := ?_)
  refine tL_law_513  (kt := fun c_513 => ?_) (kf := fun c_513 => ?_)
  · refine tL_law_528 (r := ?_)
    exact kn _ _ _ _ _ hj2
  · obtain ⟨f, af, hf⟩ := hout (by simpa using c_513)
    refine tL_law_516  (r := ?_)
    refine tL_law_517  (r := ?_)
    refine tL_law_518 (ha := (by first | assumption | (repeat (first | assumption | exact At.set_eq2 (by first | omega | (simp only [hset, hnew]; omega) | rfl | decide) | exact At.new_eq2 _ _ (by first | omega | (simp only [hset, hnew]; omega) | rfl | decide) | refine At.set_ne ?_ (by first | omega | (simp only [hset, hnew]; omega) | rfl | decide) | refine At.new_ne ?_)))) (hx := rfl) (hj := (by decide)) (hn := (by decide)) (r := ?_)
    refine tL_law_519  (r := ?_)
    refine tL_law_521  (r := ?_)
    refine tL_law_522  (r := ?_)
    refine tL_law_523  (kf := fun c_ => by exfalso; exact c_ ((lg_cmp_eq _ _).mpr hf)) (kt := fun _ => ?_)
    refine tL_law_528 (r := ?_)
    exact kn _ _ _ _ _ hj2

def Kc_beansOf (G : GT) (d2 x m out : Nat) (J : Nat → AH → Prop) (n : Nat) : Prop := ∀ (h : AH) (a0 : Int32), J n h → RQ G mL_beansOf d2 0 [some (.ref x), some (.int a0), some (.ref out), none] [] h (Ri fun k h1 => (∃ vs, At h1 m (.inr (10, vs))) ∧ RQ G mX12_beansOf d2 0 [some (.ref m), some (.int a0)] [] h1 (Ri fun b h2 => (∃ vs, At h2 m (.inr (10, .int k :: vs))) ∧ (k = 0 → ∃ f : Nat → Int64, At h2 out (.inl (2, 1, .inr (.inl f))) ∧ f 0 = b.toInt64) ∧ J (n + 1) h2))
set_option maxHeartbeats 4000000 in
set_option maxRecDepth 100000 in
theorem lc_10 {d2 x m out i n : Nat} {J : Nat → AH → Prop} {P : OC → AH → Prop} {x5 x6 x7 x8 : Option Value} (hd : d2 + 1 ≤ d) (hg : gN G < 2147483648) (hi : i + 5 < gN G) (C : Kc_beansOf G d2 x m out J n) (hj : J n h) (kn : ∀ (h2 : AH) (x5 x6 x7 x8 : Option Value), J (n + 1) h2 → RQ G mL_law d 2189 [some (.ref (OLD + 999)), some (.ref x), some (.ref m), some (.ref out), some (.int (nI i)), x5, x6, x7, x8] [] h2 P) : RQ G mL_law d 531 [some (.ref (OLD + 999)), some (.ref x), some (.ref m), some (.ref out), some (.int (nI i)), x5, x6, x7, x8] [] h P := by
  refine tL_law_531  (r := ?_)
  refine tL_law_532  (r := ?_)
  refine tL_law_533  (r := ?_)
  refine tL_law_535  (r := ?_)
  refine tL_law_536  (r := ?_)
  refine tL_law_537 (hx := (nI_add _ _)) (hj := (by omega)) (hn := hg) (r := ?_)
  refine tL_law_538  (r := ?_)
  refine tL_law_539 (hd := (by omega)) (call := C _ _ hj) (k := ?_)
  rintro k1 h1 ⟨⟨vs1, am1⟩, c1⟩
  refine tL_law_542  (r := ?_)
  refine tL_law_544  (r := ?_)
  refine tL_law_545  (r := ?_)
  refine tL_law_546  (r := ?_)
  refine tL_law_548  (r := ?_)
  refine tL_law_549  (r := ?_)
  refine tL_law_550 (hx := (nI_add _ _)) (hj := (by omega)) (hn := hg) (r := ?_)
  refine tL_law_551 (hd := (by omega)) (ha := (by first | assumption | (repeat (first | assumption | exact At.set_eq2 (by first | omega | (simp only [hset, hnew]; omega) | rfl | decide) | exact At.new_eq2 _ _ (by first | omega | (simp only [hset, hnew]; omega) | rfl | decide) | refine At.set_ne ?_ (by first | omega | (simp only [hset, hnew]; omega) | rfl | decide) | refine At.new_ne ?_)))) (call := c1) (k := ?_)
  rintro b1 h2 ⟨⟨vs2, am2⟩, hout, hj2⟩
  refine tL_law_554  (r := ?_)
  refine tL_law_556  (r := ?_)
  refine tL_law_557 (hd := (by omega)) (ha := (by first | assumption | (repeat (first | assumption | exact At.set_eq2 (by first | omega | (simp only [hset, hnew]; omega) | rfl | decide) | exact At.new_eq2 _ _ (by first | omega | (simp only [hset, hnew]; omega) | rfl | decide) | refine At.set_ne ?_ (by first | omega | (simp only [hset, hnew]; omega) | rfl | decide) | refine At.new_ne ?_)))) (call := s_thrown (d := d2) am2) (k := ?_)
  rintro v3 h3 ⟨rfl, rfl⟩
  refine tL_law_560  (r := ?_)
  refine tL_law_562  (kf := fun c_ => by exfalso; exact c_ rfl) (kt := fun _ => ?_)
  refine tL_law_567  (r := ?_)
  refine tL_law_569  (kt := fun c_569 => ?_) (kf := fun c_569 => ?_)
  · refine tL_law_584 (r := ?_)
    exact kn _ _ _ _ _ hj2
  · obtain ⟨f, af, hf⟩ := hout (by simpa using c_569)
    refine tL_law_572  (r := ?_)
    refine tL_law_573  (r := ?_)
    refine tL_law_574 (ha := (by first | assumption | (repeat (first | assumption | exact At.set_eq2 (by first | omega | (simp only [hset, hnew]; omega) | rfl | decide) | exact At.new_eq2 _ _ (by first | omega | (simp only [hset, hnew]; omega) | rfl | decide) | refine At.set_ne ?_ (by first | omega | (simp only [hset, hnew]; omega) | rfl | decide) | refine At.new_ne ?_)))) (hx := rfl) (hj := (by decide)) (hn := (by decide)) (r := ?_)
    refine tL_law_575  (r := ?_)
    refine tL_law_577  (r := ?_)
    refine tL_law_578  (r := ?_)
    refine tL_law_579  (kf := fun c_ => by exfalso; exact c_ ((lg_cmp_eq _ _).mpr hf)) (kt := fun _ => ?_)
    refine tL_law_584 (r := ?_)
    exact kn _ _ _ _ _ hj2

def Kc_turnout (G : GT) (d2 x m out : Nat) (J : Nat → AH → Prop) (n : Nat) : Prop := ∀ (h : AH) (a0 : Int32), J n h → RQ G mL_turnout d2 0 [some (.ref x), some (.int a0), some (.ref out), none] [] h (Ri fun k h1 => (∃ vs, At h1 m (.inr (10, vs))) ∧ RQ G mX12_turnout d2 0 [some (.ref m), some (.int a0)] [] h1 (Ri fun b h2 => (∃ vs, At h2 m (.inr (10, .int k :: vs))) ∧ (k = 0 → ∃ f : Nat → Int64, At h2 out (.inl (2, 1, .inr (.inl f))) ∧ f 0 = b.toInt64) ∧ J (n + 1) h2))
set_option maxHeartbeats 4000000 in
set_option maxRecDepth 100000 in
theorem lc_11 {d2 x m out i n : Nat} {J : Nat → AH → Prop} {P : OC → AH → Prop} {x5 x6 x7 x8 : Option Value} (hd : d2 + 1 ≤ d) (hg : gN G < 2147483648) (hi : i + 5 < gN G) (C : Kc_turnout G d2 x m out J n) (hj : J n h) (kn : ∀ (h2 : AH) (x5 x6 x7 x8 : Option Value), J (n + 1) h2 → RQ G mL_law d 2189 [some (.ref (OLD + 999)), some (.ref x), some (.ref m), some (.ref out), some (.int (nI i)), x5, x6, x7, x8] [] h2 P) : RQ G mL_law d 587 [some (.ref (OLD + 999)), some (.ref x), some (.ref m), some (.ref out), some (.int (nI i)), x5, x6, x7, x8] [] h P := by
  refine tL_law_587  (r := ?_)
  refine tL_law_588  (r := ?_)
  refine tL_law_589  (r := ?_)
  refine tL_law_591  (r := ?_)
  refine tL_law_592  (r := ?_)
  refine tL_law_593 (hx := (nI_add _ _)) (hj := (by omega)) (hn := hg) (r := ?_)
  refine tL_law_594  (r := ?_)
  refine tL_law_595 (hd := (by omega)) (call := C _ _ hj) (k := ?_)
  rintro k1 h1 ⟨⟨vs1, am1⟩, c1⟩
  refine tL_law_598  (r := ?_)
  refine tL_law_600  (r := ?_)
  refine tL_law_601  (r := ?_)
  refine tL_law_602  (r := ?_)
  refine tL_law_604  (r := ?_)
  refine tL_law_605  (r := ?_)
  refine tL_law_606 (hx := (nI_add _ _)) (hj := (by omega)) (hn := hg) (r := ?_)
  refine tL_law_607 (hd := (by omega)) (ha := (by first | assumption | (repeat (first | assumption | exact At.set_eq2 (by first | omega | (simp only [hset, hnew]; omega) | rfl | decide) | exact At.new_eq2 _ _ (by first | omega | (simp only [hset, hnew]; omega) | rfl | decide) | refine At.set_ne ?_ (by first | omega | (simp only [hset, hnew]; omega) | rfl | decide) | refine At.new_ne ?_)))) (call := c1) (k := ?_)
  rintro b1 h2 ⟨⟨vs2, am2⟩, hout, hj2⟩
  refine tL_law_610  (r := ?_)
  refine tL_law_612  (r := ?_)
  refine tL_law_613 (hd := (by omega)) (ha := (by first | assumption | (repeat (first | assumption | exact At.set_eq2 (by first | omega | (simp only [hset, hnew]; omega) | rfl | decide) | exact At.new_eq2 _ _ (by first | omega | (simp only [hset, hnew]; omega) | rfl | decide) | refine At.set_ne ?_ (by first | omega | (simp only [hset, hnew]; omega) | rfl | decide) | refine At.new_ne ?_)))) (call := s_thrown (d := d2) am2) (k := ?_)
  rintro v3 h3 ⟨rfl, rfl⟩
  refine tL_law_616  (r := ?_)
  refine tL_law_618  (kf := fun c_ => by exfalso; exact c_ rfl) (kt := fun _ => ?_)
  refine tL_law_623  (r := ?_)
  refine tL_law_625  (kt := fun c_625 => ?_) (kf := fun c_625 => ?_)
  · refine tL_law_640 (r := ?_)
    exact kn _ _ _ _ _ hj2
  · obtain ⟨f, af, hf⟩ := hout (by simpa using c_625)
    refine tL_law_628  (r := ?_)
    refine tL_law_629  (r := ?_)
    refine tL_law_630 (ha := (by first | assumption | (repeat (first | assumption | exact At.set_eq2 (by first | omega | (simp only [hset, hnew]; omega) | rfl | decide) | exact At.new_eq2 _ _ (by first | omega | (simp only [hset, hnew]; omega) | rfl | decide) | refine At.set_ne ?_ (by first | omega | (simp only [hset, hnew]; omega) | rfl | decide) | refine At.new_ne ?_)))) (hx := rfl) (hj := (by decide)) (hn := (by decide)) (r := ?_)
    refine tL_law_631  (r := ?_)
    refine tL_law_633  (r := ?_)
    refine tL_law_634  (r := ?_)
    refine tL_law_635  (kf := fun c_ => by exfalso; exact c_ ((lg_cmp_eq _ _).mpr hf)) (kt := fun _ => ?_)
    refine tL_law_640 (r := ?_)
    exact kn _ _ _ _ _ hj2

def Kc_seatsOf (G : GT) (d2 x m out : Nat) (J : Nat → AH → Prop) (n : Nat) : Prop := ∀ (h : AH) (a0 : Int32), J n h → RQ G mL_seatsOf d2 0 [some (.ref x), some (.int a0), some (.ref out), none] [] h (Ri fun k h1 => (∃ vs, At h1 m (.inr (10, vs))) ∧ RQ G mX12_seatsOf d2 0 [some (.ref m), some (.int a0)] [] h1 (Ri fun b h2 => (∃ vs, At h2 m (.inr (10, .int k :: vs))) ∧ (k = 0 → ∃ f : Nat → Int64, At h2 out (.inl (2, 1, .inr (.inl f))) ∧ f 0 = b.toInt64) ∧ J (n + 1) h2))
set_option maxHeartbeats 4000000 in
set_option maxRecDepth 100000 in
theorem lc_12 {d2 x m out i n : Nat} {J : Nat → AH → Prop} {P : OC → AH → Prop} {x5 x6 x7 x8 : Option Value} (hd : d2 + 1 ≤ d) (hg : gN G < 2147483648) (hi : i + 5 < gN G) (C : Kc_seatsOf G d2 x m out J n) (hj : J n h) (kn : ∀ (h2 : AH) (x5 x6 x7 x8 : Option Value), J (n + 1) h2 → RQ G mL_law d 2189 [some (.ref (OLD + 999)), some (.ref x), some (.ref m), some (.ref out), some (.int (nI i)), x5, x6, x7, x8] [] h2 P) : RQ G mL_law d 643 [some (.ref (OLD + 999)), some (.ref x), some (.ref m), some (.ref out), some (.int (nI i)), x5, x6, x7, x8] [] h P := by
  refine tL_law_643  (r := ?_)
  refine tL_law_644  (r := ?_)
  refine tL_law_645  (r := ?_)
  refine tL_law_647  (r := ?_)
  refine tL_law_648  (r := ?_)
  refine tL_law_649 (hx := (nI_add _ _)) (hj := (by omega)) (hn := hg) (r := ?_)
  refine tL_law_650  (r := ?_)
  refine tL_law_651 (hd := (by omega)) (call := C _ _ hj) (k := ?_)
  rintro k1 h1 ⟨⟨vs1, am1⟩, c1⟩
  refine tL_law_654  (r := ?_)
  refine tL_law_656  (r := ?_)
  refine tL_law_657  (r := ?_)
  refine tL_law_658  (r := ?_)
  refine tL_law_660  (r := ?_)
  refine tL_law_661  (r := ?_)
  refine tL_law_662 (hx := (nI_add _ _)) (hj := (by omega)) (hn := hg) (r := ?_)
  refine tL_law_663 (hd := (by omega)) (ha := (by first | assumption | (repeat (first | assumption | exact At.set_eq2 (by first | omega | (simp only [hset, hnew]; omega) | rfl | decide) | exact At.new_eq2 _ _ (by first | omega | (simp only [hset, hnew]; omega) | rfl | decide) | refine At.set_ne ?_ (by first | omega | (simp only [hset, hnew]; omega) | rfl | decide) | refine At.new_ne ?_)))) (call := c1) (k := ?_)
  rintro b1 h2 ⟨⟨vs2, am2⟩, hout, hj2⟩
  refine tL_law_666  (r := ?_)
  refine tL_law_668  (r := ?_)
  refine tL_law_669 (hd := (by omega)) (ha := (by first | assumption | (repeat (first | assumption | exact At.set_eq2 (by first | omega | (simp only [hset, hnew]; omega) | rfl | decide) | exact At.new_eq2 _ _ (by first | omega | (simp only [hset, hnew]; omega) | rfl | decide) | refine At.set_ne ?_ (by first | omega | (simp only [hset, hnew]; omega) | rfl | decide) | refine At.new_ne ?_)))) (call := s_thrown (d := d2) am2) (k := ?_)
  rintro v3 h3 ⟨rfl, rfl⟩
  refine tL_law_672  (r := ?_)
  refine tL_law_674  (kf := fun c_ => by exfalso; exact c_ rfl) (kt := fun _ => ?_)
  refine tL_law_679  (r := ?_)
  refine tL_law_681  (kt := fun c_681 => ?_) (kf := fun c_681 => ?_)
  · refine tL_law_696 (r := ?_)
    exact kn _ _ _ _ _ hj2
  · obtain ⟨f, af, hf⟩ := hout (by simpa using c_681)
    refine tL_law_684  (r := ?_)
    refine tL_law_685  (r := ?_)
    refine tL_law_686 (ha := (by first | assumption | (repeat (first | assumption | exact At.set_eq2 (by first | omega | (simp only [hset, hnew]; omega) | rfl | decide) | exact At.new_eq2 _ _ (by first | omega | (simp only [hset, hnew]; omega) | rfl | decide) | refine At.set_ne ?_ (by first | omega | (simp only [hset, hnew]; omega) | rfl | decide) | refine At.new_ne ?_)))) (hx := rfl) (hj := (by decide)) (hn := (by decide)) (r := ?_)
    refine tL_law_687  (r := ?_)
    refine tL_law_689  (r := ?_)
    refine tL_law_690  (r := ?_)
    refine tL_law_691  (kf := fun c_ => by exfalso; exact c_ ((lg_cmp_eq _ _).mpr hf)) (kt := fun _ => ?_)
    refine tL_law_696 (r := ?_)
    exact kn _ _ _ _ _ hj2

def Kc_leaderOf (G : GT) (d2 x m out : Nat) (J : Nat → AH → Prop) (n : Nat) : Prop := ∀ (h : AH) (a0 : Int32), J n h → RQ G mL_leaderOf d2 0 [some (.ref x), some (.int a0), some (.ref out), none] [] h (Ri fun k h1 => (∃ vs, At h1 m (.inr (10, vs))) ∧ RQ G mX12_leaderOf d2 0 [some (.ref m), some (.int a0)] [] h1 (Ri fun b h2 => (∃ vs, At h2 m (.inr (10, .int k :: vs))) ∧ (k = 0 → ∃ f : Nat → Int64, At h2 out (.inl (2, 1, .inr (.inl f))) ∧ f 0 = b.toInt64) ∧ J (n + 1) h2))
set_option maxHeartbeats 4000000 in
set_option maxRecDepth 100000 in
theorem lc_13 {d2 x m out i n : Nat} {J : Nat → AH → Prop} {P : OC → AH → Prop} {x5 x6 x7 x8 : Option Value} (hd : d2 + 1 ≤ d) (hg : gN G < 2147483648) (hi : i + 5 < gN G) (C : Kc_leaderOf G d2 x m out J n) (hj : J n h) (kn : ∀ (h2 : AH) (x5 x6 x7 x8 : Option Value), J (n + 1) h2 → RQ G mL_law d 2189 [some (.ref (OLD + 999)), some (.ref x), some (.ref m), some (.ref out), some (.int (nI i)), x5, x6, x7, x8] [] h2 P) : RQ G mL_law d 699 [some (.ref (OLD + 999)), some (.ref x), some (.ref m), some (.ref out), some (.int (nI i)), x5, x6, x7, x8] [] h P := by
  refine tL_law_699  (r := ?_)
  refine tL_law_700  (r := ?_)
  refine tL_law_701  (r := ?_)
  refine tL_law_703  (r := ?_)
  refine tL_law_704  (r := ?_)
  refine tL_law_705 (hx := (nI_add _ _)) (hj := (by omega)) (hn := hg) (r := ?_)
  refine tL_law_706  (r := ?_)
  refine tL_law_707 (hd := (by omega)) (call := C _ _ hj) (k := ?_)
  rintro k1 h1 ⟨⟨vs1, am1⟩, c1⟩
  refine tL_law_710  (r := ?_)
  refine tL_law_712  (r := ?_)
  refine tL_law_713  (r := ?_)
  refine tL_law_714  (r := ?_)
  refine tL_law_716  (r := ?_)
  refine tL_law_717  (r := ?_)
  refine tL_law_718 (hx := (nI_add _ _)) (hj := (by omega)) (hn := hg) (r := ?_)
  refine tL_law_719 (hd := (by omega)) (ha := (by first | assumption | (repeat (first | assumption | exact At.set_eq2 (by first | omega | (simp only [hset, hnew]; omega) | rfl | decide) | exact At.new_eq2 _ _ (by first | omega | (simp only [hset, hnew]; omega) | rfl | decide) | refine At.set_ne ?_ (by first | omega | (simp only [hset, hnew]; omega) | rfl | decide) | refine At.new_ne ?_)))) (call := c1) (k := ?_)
  rintro b1 h2 ⟨⟨vs2, am2⟩, hout, hj2⟩
  refine tL_law_722  (r := ?_)
  refine tL_law_724  (r := ?_)
  refine tL_law_725 (hd := (by omega)) (ha := (by first | assumption | (repeat (first | assumption | exact At.set_eq2 (by first | omega | (simp only [hset, hnew]; omega) | rfl | decide) | exact At.new_eq2 _ _ (by first | omega | (simp only [hset, hnew]; omega) | rfl | decide) | refine At.set_ne ?_ (by first | omega | (simp only [hset, hnew]; omega) | rfl | decide) | refine At.new_ne ?_)))) (call := s_thrown (d := d2) am2) (k := ?_)
  rintro v3 h3 ⟨rfl, rfl⟩
  refine tL_law_728  (r := ?_)
  refine tL_law_730  (kf := fun c_ => by exfalso; exact c_ rfl) (kt := fun _ => ?_)
  refine tL_law_735  (r := ?_)
  refine tL_law_737  (kt := fun c_737 => ?_) (kf := fun c_737 => ?_)
  · refine tL_law_752 (r := ?_)
    exact kn _ _ _ _ _ hj2
  · obtain ⟨f, af, hf⟩ := hout (by simpa using c_737)
    refine tL_law_740  (r := ?_)
    refine tL_law_741  (r := ?_)
    refine tL_law_742 (ha := (by first | assumption | (repeat (first | assumption | exact At.set_eq2 (by first | omega | (simp only [hset, hnew]; omega) | rfl | decide) | exact At.new_eq2 _ _ (by first | omega | (simp only [hset, hnew]; omega) | rfl | decide) | refine At.set_ne ?_ (by first | omega | (simp only [hset, hnew]; omega) | rfl | decide) | refine At.new_ne ?_)))) (hx := rfl) (hj := (by decide)) (hn := (by decide)) (r := ?_)
    refine tL_law_743  (r := ?_)
    refine tL_law_745  (r := ?_)
    refine tL_law_746  (r := ?_)
    refine tL_law_747  (kf := fun c_ => by exfalso; exact c_ ((lg_cmp_eq _ _).mpr hf)) (kt := fun _ => ?_)
    refine tL_law_752 (r := ?_)
    exact kn _ _ _ _ _ hj2

def Kc_areAllied (G : GT) (d2 x m out : Nat) (J : Nat → AH → Prop) (n : Nat) : Prop := ∀ (h : AH) (a0 a1 : Int32), J n h → RQ G mL_areAllied d2 0 [some (.ref x), some (.int a0), some (.int a1), some (.ref out), none] [] h (Ri fun k h1 => (∃ vs, At h1 m (.inr (10, vs))) ∧ RQ G mX12_areAllied d2 0 [some (.ref m), some (.int a0), some (.int a1)] [] h1 (Ri fun b h2 => (∃ vs, At h2 m (.inr (10, .int k :: vs))) ∧ (k = 0 → ∃ f : Nat → Int64, At h2 out (.inl (2, 1, .inr (.inl f))) ∧ f 0 = b.toInt64) ∧ (b = nI 0 ∨ b = nI 1) ∧ J (n + 1) h2))
set_option maxHeartbeats 4000000 in
set_option maxRecDepth 100000 in
theorem lc_14 {d2 x m out i n : Nat} {J : Nat → AH → Prop} {P : OC → AH → Prop} {x5 x6 x7 x8 : Option Value} (hd : d2 + 1 ≤ d) (hg : gN G < 2147483648) (hi : i + 5 < gN G) (C : Kc_areAllied G d2 x m out J n) (hj : J n h) (kn : ∀ (h2 : AH) (x5 x6 x7 x8 : Option Value), J (n + 1) h2 → RQ G mL_law d 2189 [some (.ref (OLD + 999)), some (.ref x), some (.ref m), some (.ref out), some (.int (nI i)), x5, x6, x7, x8] [] h2 P) : RQ G mL_law d 755 [some (.ref (OLD + 999)), some (.ref x), some (.ref m), some (.ref out), some (.int (nI i)), x5, x6, x7, x8] [] h P := by
  refine tL_law_755  (r := ?_)
  refine tL_law_756  (r := ?_)
  refine tL_law_757  (r := ?_)
  refine tL_law_759  (r := ?_)
  refine tL_law_760  (r := ?_)
  refine tL_law_761 (hx := (nI_add _ _)) (hj := (by omega)) (hn := hg) (r := ?_)
  refine tL_law_762  (r := ?_)
  refine tL_law_763  (r := ?_)
  refine tL_law_765  (r := ?_)
  refine tL_law_766  (r := ?_)
  refine tL_law_767 (hx := (nI_add _ _)) (hj := (by omega)) (hn := hg) (r := ?_)
  refine tL_law_768  (r := ?_)
  refine tL_law_769 (hd := (by omega)) (call := C _ _ _ hj) (k := ?_)
  rintro k1 h1 ⟨⟨vs1, am1⟩, c1⟩
  refine tL_law_772  (r := ?_)
  refine tL_law_774  (r := ?_)
  refine tL_law_775  (r := ?_)
  refine tL_law_776  (r := ?_)
  refine tL_law_778  (r := ?_)
  refine tL_law_779  (r := ?_)
  refine tL_law_780 (hx := (nI_add _ _)) (hj := (by omega)) (hn := hg) (r := ?_)
  refine tL_law_781  (r := ?_)
  refine tL_law_782  (r := ?_)
  refine tL_law_784  (r := ?_)
  refine tL_law_785  (r := ?_)
  refine tL_law_786 (hx := (nI_add _ _)) (hj := (by omega)) (hn := hg) (r := ?_)
  refine tL_law_787 (hd := (by omega)) (ha := (by first | assumption | (repeat (first | assumption | exact At.set_eq2 (by first | omega | (simp only [hset, hnew]; omega) | rfl | decide) | exact At.new_eq2 _ _ (by first | omega | (simp only [hset, hnew]; omega) | rfl | decide) | refine At.set_ne ?_ (by first | omega | (simp only [hset, hnew]; omega) | rfl | decide) | refine At.new_ne ?_)))) (call := c1) (k := ?_)
  rintro b1 h2 ⟨⟨vs2, am2⟩, hout, hbo, hj2⟩
  refine tL_law_790  (r := ?_)
  refine tL_law_792  (r := ?_)
  refine tL_law_793 (hd := (by omega)) (ha := (by first | assumption | (repeat (first | assumption | exact At.set_eq2 (by first | omega | (simp only [hset, hnew]; omega) | rfl | decide) | exact At.new_eq2 _ _ (by first | omega | (simp only [hset, hnew]; omega) | rfl | decide) | refine At.set_ne ?_ (by first | omega | (simp only [hset, hnew]; omega) | rfl | decide) | refine At.new_ne ?_)))) (call := s_thrown (d := d2) am2) (k := ?_)
  rintro v3 h3 ⟨rfl, rfl⟩
  refine tL_law_796  (r := ?_)
  refine tL_law_798  (kf := fun c_ => by exfalso; exact c_ rfl) (kt := fun _ => ?_)
  refine tL_law_803  (r := ?_)
  refine tL_law_805  (kt := fun c_805 => ?_) (kf := fun c_805 => ?_)
  · refine tL_law_827 (r := ?_)
    exact kn _ _ _ _ _ hj2
  · obtain ⟨f, af, hf⟩ := hout (by simpa using c_805)
    refine tL_law_808  (r := ?_)
    refine tL_law_809  (r := ?_)
    refine tL_law_810 (ha := (by first | assumption | (repeat (first | assumption | exact At.set_eq2 (by first | omega | (simp only [hset, hnew]; omega) | rfl | decide) | exact At.new_eq2 _ _ (by first | omega | (simp only [hset, hnew]; omega) | rfl | decide) | refine At.set_ne ?_ (by first | omega | (simp only [hset, hnew]; omega) | rfl | decide) | refine At.new_ne ?_)))) (hx := rfl) (hj := (by decide)) (hn := (by decide)) (r := ?_)
    refine tL_law_811  (r := ?_)
    refine tL_law_813  (kt := fun c_813 => ?_) (kf := fun c_813 => ?_)
    · refine tL_law_820  (r := ?_)
      refine tL_law_821  (r := ?_)
      refine tL_law_822  (kf := fun c_ => by exfalso; exact c_ ((lg_cmp_eq _ _).mpr (by rw [hf, c_813]; decide))) (kt := fun _ => ?_)
      refine tL_law_827 (r := ?_)
      exact kn _ _ _ _ _ hj2
    · refine tL_law_816  (r := ?_)
      refine tL_law_817 (r := ?_)
      refine tL_law_821  (r := ?_)
      refine tL_law_822  (kf := fun c_ => by exfalso; exact c_ ((lg_cmp_eq _ _).mpr (by rcases hbo with e_ | e_ <;> first | exact absurd (e_.trans nI_0) c_813 | (rw [hf, e_]; decide)))) (kt := fun _ => ?_)
      refine tL_law_827 (r := ?_)
      exact kn _ _ _ _ _ hj2

def Kc_firstIn (G : GT) (d2 x m out : Nat) (J : Nat → AH → Prop) (n : Nat) : Prop := ∀ (h : AH) (a0 : Int32), J n h → RQ G mL_firstIn d2 0 [some (.ref x), some (.int a0), some (.ref out), none] [] h (Ri fun k h1 => (∃ vs, At h1 m (.inr (10, vs))) ∧ RQ G mX12_firstIn d2 0 [some (.ref m), some (.int a0)] [] h1 (Ri fun b h2 => (∃ vs, At h2 m (.inr (10, .int k :: vs))) ∧ (k = 0 → ∃ f : Nat → Int64, At h2 out (.inl (2, 1, .inr (.inl f))) ∧ f 0 = b.toInt64) ∧ J (n + 1) h2))
set_option maxHeartbeats 4000000 in
set_option maxRecDepth 100000 in
theorem lc_15 {d2 x m out i n : Nat} {J : Nat → AH → Prop} {P : OC → AH → Prop} {x5 x6 x7 x8 : Option Value} (hd : d2 + 1 ≤ d) (hg : gN G < 2147483648) (hi : i + 5 < gN G) (C : Kc_firstIn G d2 x m out J n) (hj : J n h) (kn : ∀ (h2 : AH) (x5 x6 x7 x8 : Option Value), J (n + 1) h2 → RQ G mL_law d 2189 [some (.ref (OLD + 999)), some (.ref x), some (.ref m), some (.ref out), some (.int (nI i)), x5, x6, x7, x8] [] h2 P) : RQ G mL_law d 830 [some (.ref (OLD + 999)), some (.ref x), some (.ref m), some (.ref out), some (.int (nI i)), x5, x6, x7, x8] [] h P := by
  refine tL_law_830  (r := ?_)
  refine tL_law_831  (r := ?_)
  refine tL_law_832  (r := ?_)
  refine tL_law_834  (r := ?_)
  refine tL_law_835  (r := ?_)
  refine tL_law_836 (hx := (nI_add _ _)) (hj := (by omega)) (hn := hg) (r := ?_)
  refine tL_law_837  (r := ?_)
  refine tL_law_838 (hd := (by omega)) (call := C _ _ hj) (k := ?_)
  rintro k1 h1 ⟨⟨vs1, am1⟩, c1⟩
  refine tL_law_841  (r := ?_)
  refine tL_law_843  (r := ?_)
  refine tL_law_844  (r := ?_)
  refine tL_law_845  (r := ?_)
  refine tL_law_847  (r := ?_)
  refine tL_law_848  (r := ?_)
  refine tL_law_849 (hx := (nI_add _ _)) (hj := (by omega)) (hn := hg) (r := ?_)
  refine tL_law_850 (hd := (by omega)) (ha := (by first | assumption | (repeat (first | assumption | exact At.set_eq2 (by first | omega | (simp only [hset, hnew]; omega) | rfl | decide) | exact At.new_eq2 _ _ (by first | omega | (simp only [hset, hnew]; omega) | rfl | decide) | refine At.set_ne ?_ (by first | omega | (simp only [hset, hnew]; omega) | rfl | decide) | refine At.new_ne ?_)))) (call := c1) (k := ?_)
  rintro b1 h2 ⟨⟨vs2, am2⟩, hout, hj2⟩
  refine tL_law_853  (r := ?_)
  refine tL_law_855  (r := ?_)
  refine tL_law_856 (hd := (by omega)) (ha := (by first | assumption | (repeat (first | assumption | exact At.set_eq2 (by first | omega | (simp only [hset, hnew]; omega) | rfl | decide) | exact At.new_eq2 _ _ (by first | omega | (simp only [hset, hnew]; omega) | rfl | decide) | refine At.set_ne ?_ (by first | omega | (simp only [hset, hnew]; omega) | rfl | decide) | refine At.new_ne ?_)))) (call := s_thrown (d := d2) am2) (k := ?_)
  rintro v3 h3 ⟨rfl, rfl⟩
  refine tL_law_859  (r := ?_)
  refine tL_law_861  (kf := fun c_ => by exfalso; exact c_ rfl) (kt := fun _ => ?_)
  refine tL_law_866  (r := ?_)
  refine tL_law_868  (kt := fun c_868 => ?_) (kf := fun c_868 => ?_)
  · refine tL_law_883 (r := ?_)
    exact kn _ _ _ _ _ hj2
  · obtain ⟨f, af, hf⟩ := hout (by simpa using c_868)
    refine tL_law_871  (r := ?_)
    refine tL_law_872  (r := ?_)
    refine tL_law_873 (ha := (by first | assumption | (repeat (first | assumption | exact At.set_eq2 (by first | omega | (simp only [hset, hnew]; omega) | rfl | decide) | exact At.new_eq2 _ _ (by first | omega | (simp only [hset, hnew]; omega) | rfl | decide) | refine At.set_ne ?_ (by first | omega | (simp only [hset, hnew]; omega) | rfl | decide) | refine At.new_ne ?_)))) (hx := rfl) (hj := (by decide)) (hn := (by decide)) (r := ?_)
    refine tL_law_874  (r := ?_)
    refine tL_law_876  (r := ?_)
    refine tL_law_877  (r := ?_)
    refine tL_law_878  (kf := fun c_ => by exfalso; exact c_ ((lg_cmp_eq _ _).mpr hf)) (kt := fun _ => ?_)
    refine tL_law_883 (r := ?_)
    exact kn _ _ _ _ _ hj2

def Kc_marginIn (G : GT) (d2 x m out : Nat) (J : Nat → AH → Prop) (n : Nat) : Prop := ∀ (h : AH) (a0 : Int32), J n h → RQ G mL_marginIn d2 0 [some (.ref x), some (.int a0), some (.ref out), none] [] h (Ri fun k h1 => (∃ vs, At h1 m (.inr (10, vs))) ∧ RQ G mX12_marginIn d2 0 [some (.ref m), some (.int a0)] [] h1 (Ri fun b h2 => (∃ vs, At h2 m (.inr (10, .int k :: vs))) ∧ (k = 0 → ∃ f : Nat → Int64, At h2 out (.inl (2, 1, .inr (.inl f))) ∧ f 0 = b.toInt64) ∧ J (n + 1) h2))
set_option maxHeartbeats 4000000 in
set_option maxRecDepth 100000 in
theorem lc_16 {d2 x m out i n : Nat} {J : Nat → AH → Prop} {P : OC → AH → Prop} {x5 x6 x7 x8 : Option Value} (hd : d2 + 1 ≤ d) (hg : gN G < 2147483648) (hi : i + 5 < gN G) (C : Kc_marginIn G d2 x m out J n) (hj : J n h) (kn : ∀ (h2 : AH) (x5 x6 x7 x8 : Option Value), J (n + 1) h2 → RQ G mL_law d 2189 [some (.ref (OLD + 999)), some (.ref x), some (.ref m), some (.ref out), some (.int (nI i)), x5, x6, x7, x8] [] h2 P) : RQ G mL_law d 886 [some (.ref (OLD + 999)), some (.ref x), some (.ref m), some (.ref out), some (.int (nI i)), x5, x6, x7, x8] [] h P := by
  refine tL_law_886  (r := ?_)
  refine tL_law_887  (r := ?_)
  refine tL_law_888  (r := ?_)
  refine tL_law_890  (r := ?_)
  refine tL_law_891  (r := ?_)
  refine tL_law_892 (hx := (nI_add _ _)) (hj := (by omega)) (hn := hg) (r := ?_)
  refine tL_law_893  (r := ?_)
  refine tL_law_894 (hd := (by omega)) (call := C _ _ hj) (k := ?_)
  rintro k1 h1 ⟨⟨vs1, am1⟩, c1⟩
  refine tL_law_897  (r := ?_)
  refine tL_law_899  (r := ?_)
  refine tL_law_900  (r := ?_)
  refine tL_law_901  (r := ?_)
  refine tL_law_903  (r := ?_)
  refine tL_law_904  (r := ?_)
  refine tL_law_905 (hx := (nI_add _ _)) (hj := (by omega)) (hn := hg) (r := ?_)
  refine tL_law_906 (hd := (by omega)) (ha := (by first | assumption | (repeat (first | assumption | exact At.set_eq2 (by first | omega | (simp only [hset, hnew]; omega) | rfl | decide) | exact At.new_eq2 _ _ (by first | omega | (simp only [hset, hnew]; omega) | rfl | decide) | refine At.set_ne ?_ (by first | omega | (simp only [hset, hnew]; omega) | rfl | decide) | refine At.new_ne ?_)))) (call := c1) (k := ?_)
  rintro b1 h2 ⟨⟨vs2, am2⟩, hout, hj2⟩
  refine tL_law_909  (r := ?_)
  refine tL_law_911  (r := ?_)
  refine tL_law_912 (hd := (by omega)) (ha := (by first | assumption | (repeat (first | assumption | exact At.set_eq2 (by first | omega | (simp only [hset, hnew]; omega) | rfl | decide) | exact At.new_eq2 _ _ (by first | omega | (simp only [hset, hnew]; omega) | rfl | decide) | refine At.set_ne ?_ (by first | omega | (simp only [hset, hnew]; omega) | rfl | decide) | refine At.new_ne ?_)))) (call := s_thrown (d := d2) am2) (k := ?_)
  rintro v3 h3 ⟨rfl, rfl⟩
  refine tL_law_915  (r := ?_)
  refine tL_law_917  (kf := fun c_ => by exfalso; exact c_ rfl) (kt := fun _ => ?_)
  refine tL_law_922  (r := ?_)
  refine tL_law_924  (kt := fun c_924 => ?_) (kf := fun c_924 => ?_)
  · refine tL_law_939 (r := ?_)
    exact kn _ _ _ _ _ hj2
  · obtain ⟨f, af, hf⟩ := hout (by simpa using c_924)
    refine tL_law_927  (r := ?_)
    refine tL_law_928  (r := ?_)
    refine tL_law_929 (ha := (by first | assumption | (repeat (first | assumption | exact At.set_eq2 (by first | omega | (simp only [hset, hnew]; omega) | rfl | decide) | exact At.new_eq2 _ _ (by first | omega | (simp only [hset, hnew]; omega) | rfl | decide) | refine At.set_ne ?_ (by first | omega | (simp only [hset, hnew]; omega) | rfl | decide) | refine At.new_ne ?_)))) (hx := rfl) (hj := (by decide)) (hn := (by decide)) (r := ?_)
    refine tL_law_930  (r := ?_)
    refine tL_law_932  (r := ?_)
    refine tL_law_933  (r := ?_)
    refine tL_law_934  (kf := fun c_ => by exfalso; exact c_ ((lg_cmp_eq _ _).mpr hf)) (kt := fun _ => ?_)
    refine tL_law_939 (r := ?_)
    exact kn _ _ _ _ _ hj2

def Kc_allianceBeans (G : GT) (d2 x m out : Nat) (J : Nat → AH → Prop) (n : Nat) : Prop := ∀ (h : AH) (a0 a1 : Int32), J n h → RQ G mL_allianceBeans d2 0 [some (.ref x), some (.int a0), some (.int a1), some (.ref out), none] [] h (Ri fun k h1 => (∃ vs, At h1 m (.inr (10, vs))) ∧ RQ G mX12_allianceBeans d2 0 [some (.ref m), some (.int a0), some (.int a1)] [] h1 (Ri fun b h2 => (∃ vs, At h2 m (.inr (10, .int k :: vs))) ∧ (k = 0 → ∃ f : Nat → Int64, At h2 out (.inl (2, 1, .inr (.inl f))) ∧ f 0 = b.toInt64) ∧ J (n + 1) h2))
set_option maxHeartbeats 4000000 in
set_option maxRecDepth 100000 in
theorem lc_17 {d2 x m out i n : Nat} {J : Nat → AH → Prop} {P : OC → AH → Prop} {x5 x6 x7 x8 : Option Value} (hd : d2 + 1 ≤ d) (hg : gN G < 2147483648) (hi : i + 5 < gN G) (C : Kc_allianceBeans G d2 x m out J n) (hj : J n h) (kn : ∀ (h2 : AH) (x5 x6 x7 x8 : Option Value), J (n + 1) h2 → RQ G mL_law d 2189 [some (.ref (OLD + 999)), some (.ref x), some (.ref m), some (.ref out), some (.int (nI i)), x5, x6, x7, x8] [] h2 P) : RQ G mL_law d 942 [some (.ref (OLD + 999)), some (.ref x), some (.ref m), some (.ref out), some (.int (nI i)), x5, x6, x7, x8] [] h P := by
  refine tL_law_942  (r := ?_)
  refine tL_law_943  (r := ?_)
  refine tL_law_944  (r := ?_)
  refine tL_law_946  (r := ?_)
  refine tL_law_947  (r := ?_)
  refine tL_law_948 (hx := (nI_add _ _)) (hj := (by omega)) (hn := hg) (r := ?_)
  refine tL_law_949  (r := ?_)
  refine tL_law_950  (r := ?_)
  refine tL_law_952  (r := ?_)
  refine tL_law_953  (r := ?_)
  refine tL_law_954 (hx := (nI_add _ _)) (hj := (by omega)) (hn := hg) (r := ?_)
  refine tL_law_955  (r := ?_)
  refine tL_law_956 (hd := (by omega)) (call := C _ _ _ hj) (k := ?_)
  rintro k1 h1 ⟨⟨vs1, am1⟩, c1⟩
  refine tL_law_959  (r := ?_)
  refine tL_law_961  (r := ?_)
  refine tL_law_962  (r := ?_)
  refine tL_law_963  (r := ?_)
  refine tL_law_965  (r := ?_)
  refine tL_law_966  (r := ?_)
  refine tL_law_967 (hx := (nI_add _ _)) (hj := (by omega)) (hn := hg) (r := ?_)
  refine tL_law_968  (r := ?_)
  refine tL_law_969  (r := ?_)
  refine tL_law_971  (r := ?_)
  refine tL_law_972  (r := ?_)
  refine tL_law_973 (hx := (nI_add _ _)) (hj := (by omega)) (hn := hg) (r := ?_)
  refine tL_law_974 (hd := (by omega)) (ha := (by first | assumption | (repeat (first | assumption | exact At.set_eq2 (by first | omega | (simp only [hset, hnew]; omega) | rfl | decide) | exact At.new_eq2 _ _ (by first | omega | (simp only [hset, hnew]; omega) | rfl | decide) | refine At.set_ne ?_ (by first | omega | (simp only [hset, hnew]; omega) | rfl | decide) | refine At.new_ne ?_)))) (call := c1) (k := ?_)
  rintro b1 h2 ⟨⟨vs2, am2⟩, hout, hj2⟩
  refine tL_law_977  (r := ?_)
  refine tL_law_979  (r := ?_)
  refine tL_law_980 (hd := (by omega)) (ha := (by first | assumption | (repeat (first | assumption | exact At.set_eq2 (by first | omega | (simp only [hset, hnew]; omega) | rfl | decide) | exact At.new_eq2 _ _ (by first | omega | (simp only [hset, hnew]; omega) | rfl | decide) | refine At.set_ne ?_ (by first | omega | (simp only [hset, hnew]; omega) | rfl | decide) | refine At.new_ne ?_)))) (call := s_thrown (d := d2) am2) (k := ?_)
  rintro v3 h3 ⟨rfl, rfl⟩
  refine tL_law_983  (r := ?_)
  refine tL_law_985  (kf := fun c_ => by exfalso; exact c_ rfl) (kt := fun _ => ?_)
  refine tL_law_990  (r := ?_)
  refine tL_law_992  (kt := fun c_992 => ?_) (kf := fun c_992 => ?_)
  · refine tL_law_1007 (r := ?_)
    exact kn _ _ _ _ _ hj2
  · obtain ⟨f, af, hf⟩ := hout (by simpa using c_992)
    refine tL_law_995  (r := ?_)
    refine tL_law_996  (r := ?_)
    refine tL_law_997 (ha := (by first | assumption | (repeat (first | assumption | exact At.set_eq2 (by first | omega | (simp only [hset, hnew]; omega) | rfl | decide) | exact At.new_eq2 _ _ (by first | omega | (simp only [hset, hnew]; omega) | rfl | decide) | refine At.set_ne ?_ (by first | omega | (simp only [hset, hnew]; omega) | rfl | decide) | refine At.new_ne ?_)))) (hx := rfl) (hj := (by decide)) (hn := (by decide)) (r := ?_)
    refine tL_law_998  (r := ?_)
    refine tL_law_1000  (r := ?_)
    refine tL_law_1001  (r := ?_)
    refine tL_law_1002  (kf := fun c_ => by exfalso; exact c_ ((lg_cmp_eq _ _).mpr hf)) (kt := fun _ => ?_)
    refine tL_law_1007 (r := ?_)
    exact kn _ _ _ _ _ hj2

def Kc_seatsWon (G : GT) (d2 x m out : Nat) (J : Nat → AH → Prop) (n : Nat) : Prop := ∀ (h : AH) (a0 a1 : Int32), J n h → RQ G mL_seatsWon d2 0 [some (.ref x), some (.int a0), some (.int a1), some (.ref out), none] [] h (Ri fun k h1 => (∃ vs, At h1 m (.inr (10, vs))) ∧ RQ G mX12_seatsWon d2 0 [some (.ref m), some (.int a0), some (.int a1)] [] h1 (Ri fun b h2 => (∃ vs, At h2 m (.inr (10, .int k :: vs))) ∧ (k = 0 → ∃ f : Nat → Int64, At h2 out (.inl (2, 1, .inr (.inl f))) ∧ f 0 = b.toInt64) ∧ J (n + 1) h2))
set_option maxHeartbeats 4000000 in
set_option maxRecDepth 100000 in
theorem lc_18 {d2 x m out i n : Nat} {J : Nat → AH → Prop} {P : OC → AH → Prop} {x5 x6 x7 x8 : Option Value} (hd : d2 + 1 ≤ d) (hg : gN G < 2147483648) (hi : i + 5 < gN G) (C : Kc_seatsWon G d2 x m out J n) (hj : J n h) (kn : ∀ (h2 : AH) (x5 x6 x7 x8 : Option Value), J (n + 1) h2 → RQ G mL_law d 2189 [some (.ref (OLD + 999)), some (.ref x), some (.ref m), some (.ref out), some (.int (nI i)), x5, x6, x7, x8] [] h2 P) : RQ G mL_law d 1010 [some (.ref (OLD + 999)), some (.ref x), some (.ref m), some (.ref out), some (.int (nI i)), x5, x6, x7, x8] [] h P := by
  refine tL_law_1010  (r := ?_)
  refine tL_law_1011  (r := ?_)
  refine tL_law_1012  (r := ?_)
  refine tL_law_1014  (r := ?_)
  refine tL_law_1015  (r := ?_)
  refine tL_law_1016 (hx := (nI_add _ _)) (hj := (by omega)) (hn := hg) (r := ?_)
  refine tL_law_1017  (r := ?_)
  refine tL_law_1018  (r := ?_)
  refine tL_law_1020  (r := ?_)
  refine tL_law_1021  (r := ?_)
  refine tL_law_1022 (hx := (nI_add _ _)) (hj := (by omega)) (hn := hg) (r := ?_)
  refine tL_law_1023  (r := ?_)
  refine tL_law_1024 (hd := (by omega)) (call := C _ _ _ hj) (k := ?_)
  rintro k1 h1 ⟨⟨vs1, am1⟩, c1⟩
  refine tL_law_1027  (r := ?_)
  refine tL_law_1029  (r := ?_)
  refine tL_law_1030  (r := ?_)
  refine tL_law_1031  (r := ?_)
  refine tL_law_1033  (r := ?_)
  refine tL_law_1034  (r := ?_)
  refine tL_law_1035 (hx := (nI_add _ _)) (hj := (by omega)) (hn := hg) (r := ?_)
  refine tL_law_1036  (r := ?_)
  refine tL_law_1037  (r := ?_)
  refine tL_law_1039  (r := ?_)
  refine tL_law_1040  (r := ?_)
  refine tL_law_1041 (hx := (nI_add _ _)) (hj := (by omega)) (hn := hg) (r := ?_)
  refine tL_law_1042 (hd := (by omega)) (ha := (by first | assumption | (repeat (first | assumption | exact At.set_eq2 (by first | omega | (simp only [hset, hnew]; omega) | rfl | decide) | exact At.new_eq2 _ _ (by first | omega | (simp only [hset, hnew]; omega) | rfl | decide) | refine At.set_ne ?_ (by first | omega | (simp only [hset, hnew]; omega) | rfl | decide) | refine At.new_ne ?_)))) (call := c1) (k := ?_)
  rintro b1 h2 ⟨⟨vs2, am2⟩, hout, hj2⟩
  refine tL_law_1045  (r := ?_)
  refine tL_law_1047  (r := ?_)
  refine tL_law_1048 (hd := (by omega)) (ha := (by first | assumption | (repeat (first | assumption | exact At.set_eq2 (by first | omega | (simp only [hset, hnew]; omega) | rfl | decide) | exact At.new_eq2 _ _ (by first | omega | (simp only [hset, hnew]; omega) | rfl | decide) | refine At.set_ne ?_ (by first | omega | (simp only [hset, hnew]; omega) | rfl | decide) | refine At.new_ne ?_)))) (call := s_thrown (d := d2) am2) (k := ?_)
  rintro v3 h3 ⟨rfl, rfl⟩
  refine tL_law_1051  (r := ?_)
  refine tL_law_1053  (kf := fun c_ => by exfalso; exact c_ rfl) (kt := fun _ => ?_)
  refine tL_law_1058  (r := ?_)
  refine tL_law_1060  (kt := fun c_1060 => ?_) (kf := fun c_1060 => ?_)
  · refine tL_law_1075 (r := ?_)
    exact kn _ _ _ _ _ hj2
  · obtain ⟨f, af, hf⟩ := hout (by simpa using c_1060)
    refine tL_law_1063  (r := ?_)
    refine tL_law_1064  (r := ?_)
    refine tL_law_1065 (ha := (by first | assumption | (repeat (first | assumption | exact At.set_eq2 (by first | omega | (simp only [hset, hnew]; omega) | rfl | decide) | exact At.new_eq2 _ _ (by first | omega | (simp only [hset, hnew]; omega) | rfl | decide) | refine At.set_ne ?_ (by first | omega | (simp only [hset, hnew]; omega) | rfl | decide) | refine At.new_ne ?_)))) (hx := rfl) (hj := (by decide)) (hn := (by decide)) (r := ?_)
    refine tL_law_1066  (r := ?_)
    refine tL_law_1068  (r := ?_)
    refine tL_law_1069  (r := ?_)
    refine tL_law_1070  (kf := fun c_ => by exfalso; exact c_ ((lg_cmp_eq _ _).mpr hf)) (kt := fun _ => ?_)
    refine tL_law_1075 (r := ?_)
    exact kn _ _ _ _ _ hj2

def Kc_emptySeats (G : GT) (d2 x m out : Nat) (J : Nat → AH → Prop) (n : Nat) : Prop := ∀ (h : AH) (a0 : Int32), J n h → RQ G mL_emptySeats d2 0 [some (.ref x), some (.int a0), some (.ref out), none] [] h (Ri fun k h1 => (∃ vs, At h1 m (.inr (10, vs))) ∧ RQ G mX12_emptySeats d2 0 [some (.ref m), some (.int a0)] [] h1 (Ri fun b h2 => (∃ vs, At h2 m (.inr (10, .int k :: vs))) ∧ (k = 0 → ∃ f : Nat → Int64, At h2 out (.inl (2, 1, .inr (.inl f))) ∧ f 0 = b.toInt64) ∧ J (n + 1) h2))
set_option maxHeartbeats 4000000 in
set_option maxRecDepth 100000 in
theorem lc_19 {d2 x m out i n : Nat} {J : Nat → AH → Prop} {P : OC → AH → Prop} {x5 x6 x7 x8 : Option Value} (hd : d2 + 1 ≤ d) (hg : gN G < 2147483648) (hi : i + 5 < gN G) (C : Kc_emptySeats G d2 x m out J n) (hj : J n h) (kn : ∀ (h2 : AH) (x5 x6 x7 x8 : Option Value), J (n + 1) h2 → RQ G mL_law d 2189 [some (.ref (OLD + 999)), some (.ref x), some (.ref m), some (.ref out), some (.int (nI i)), x5, x6, x7, x8] [] h2 P) : RQ G mL_law d 1078 [some (.ref (OLD + 999)), some (.ref x), some (.ref m), some (.ref out), some (.int (nI i)), x5, x6, x7, x8] [] h P := by
  refine tL_law_1078  (r := ?_)
  refine tL_law_1079  (r := ?_)
  refine tL_law_1080  (r := ?_)
  refine tL_law_1082  (r := ?_)
  refine tL_law_1083  (r := ?_)
  refine tL_law_1084 (hx := (nI_add _ _)) (hj := (by omega)) (hn := hg) (r := ?_)
  refine tL_law_1085  (r := ?_)
  refine tL_law_1086 (hd := (by omega)) (call := C _ _ hj) (k := ?_)
  rintro k1 h1 ⟨⟨vs1, am1⟩, c1⟩
  refine tL_law_1089  (r := ?_)
  refine tL_law_1091  (r := ?_)
  refine tL_law_1092  (r := ?_)
  refine tL_law_1093  (r := ?_)
  refine tL_law_1095  (r := ?_)
  refine tL_law_1096  (r := ?_)
  refine tL_law_1097 (hx := (nI_add _ _)) (hj := (by omega)) (hn := hg) (r := ?_)
  refine tL_law_1098 (hd := (by omega)) (ha := (by first | assumption | (repeat (first | assumption | exact At.set_eq2 (by first | omega | (simp only [hset, hnew]; omega) | rfl | decide) | exact At.new_eq2 _ _ (by first | omega | (simp only [hset, hnew]; omega) | rfl | decide) | refine At.set_ne ?_ (by first | omega | (simp only [hset, hnew]; omega) | rfl | decide) | refine At.new_ne ?_)))) (call := c1) (k := ?_)
  rintro b1 h2 ⟨⟨vs2, am2⟩, hout, hj2⟩
  refine tL_law_1101  (r := ?_)
  refine tL_law_1103  (r := ?_)
  refine tL_law_1104 (hd := (by omega)) (ha := (by first | assumption | (repeat (first | assumption | exact At.set_eq2 (by first | omega | (simp only [hset, hnew]; omega) | rfl | decide) | exact At.new_eq2 _ _ (by first | omega | (simp only [hset, hnew]; omega) | rfl | decide) | refine At.set_ne ?_ (by first | omega | (simp only [hset, hnew]; omega) | rfl | decide) | refine At.new_ne ?_)))) (call := s_thrown (d := d2) am2) (k := ?_)
  rintro v3 h3 ⟨rfl, rfl⟩
  refine tL_law_1107  (r := ?_)
  refine tL_law_1109  (kf := fun c_ => by exfalso; exact c_ rfl) (kt := fun _ => ?_)
  refine tL_law_1114  (r := ?_)
  refine tL_law_1116  (kt := fun c_1116 => ?_) (kf := fun c_1116 => ?_)
  · refine tL_law_1131 (r := ?_)
    exact kn _ _ _ _ _ hj2
  · obtain ⟨f, af, hf⟩ := hout (by simpa using c_1116)
    refine tL_law_1119  (r := ?_)
    refine tL_law_1120  (r := ?_)
    refine tL_law_1121 (ha := (by first | assumption | (repeat (first | assumption | exact At.set_eq2 (by first | omega | (simp only [hset, hnew]; omega) | rfl | decide) | exact At.new_eq2 _ _ (by first | omega | (simp only [hset, hnew]; omega) | rfl | decide) | refine At.set_ne ?_ (by first | omega | (simp only [hset, hnew]; omega) | rfl | decide) | refine At.new_ne ?_)))) (hx := rfl) (hj := (by decide)) (hn := (by decide)) (r := ?_)
    refine tL_law_1122  (r := ?_)
    refine tL_law_1124  (r := ?_)
    refine tL_law_1125  (r := ?_)
    refine tL_law_1126  (kf := fun c_ => by exfalso; exact c_ ((lg_cmp_eq _ _).mpr hf)) (kt := fun _ => ?_)
    refine tL_law_1131 (r := ?_)
    exact kn _ _ _ _ _ hj2

def Kc_seatsInAll (G : GT) (d2 x m out : Nat) (J : Nat → AH → Prop) (n : Nat) : Prop := ∀ (h : AH) (a0 : Int32), J n h → RQ G mL_seatsInAll d2 0 [some (.ref x), some (.int a0), some (.ref out), none] [] h (Ri fun k h1 => (∃ vs, At h1 m (.inr (10, vs))) ∧ RQ G mX12_seatsInAll d2 0 [some (.ref m), some (.int a0)] [] h1 (Ri fun b h2 => (∃ vs, At h2 m (.inr (10, .int k :: vs))) ∧ (k = 0 → ∃ f : Nat → Int64, At h2 out (.inl (2, 1, .inr (.inl f))) ∧ f 0 = b.toInt64) ∧ J (n + 1) h2))
set_option maxHeartbeats 4000000 in
set_option maxRecDepth 100000 in
theorem lc_20 {d2 x m out i n : Nat} {J : Nat → AH → Prop} {P : OC → AH → Prop} {x5 x6 x7 x8 : Option Value} (hd : d2 + 1 ≤ d) (hg : gN G < 2147483648) (hi : i + 5 < gN G) (C : Kc_seatsInAll G d2 x m out J n) (hj : J n h) (kn : ∀ (h2 : AH) (x5 x6 x7 x8 : Option Value), J (n + 1) h2 → RQ G mL_law d 2189 [some (.ref (OLD + 999)), some (.ref x), some (.ref m), some (.ref out), some (.int (nI i)), x5, x6, x7, x8] [] h2 P) : RQ G mL_law d 1134 [some (.ref (OLD + 999)), some (.ref x), some (.ref m), some (.ref out), some (.int (nI i)), x5, x6, x7, x8] [] h P := by
  refine tL_law_1134  (r := ?_)
  refine tL_law_1135  (r := ?_)
  refine tL_law_1136  (r := ?_)
  refine tL_law_1138  (r := ?_)
  refine tL_law_1139  (r := ?_)
  refine tL_law_1140 (hx := (nI_add _ _)) (hj := (by omega)) (hn := hg) (r := ?_)
  refine tL_law_1141  (r := ?_)
  refine tL_law_1142 (hd := (by omega)) (call := C _ _ hj) (k := ?_)
  rintro k1 h1 ⟨⟨vs1, am1⟩, c1⟩
  refine tL_law_1145  (r := ?_)
  refine tL_law_1147  (r := ?_)
  refine tL_law_1148  (r := ?_)
  refine tL_law_1149  (r := ?_)
  refine tL_law_1151  (r := ?_)
  refine tL_law_1152  (r := ?_)
  refine tL_law_1153 (hx := (nI_add _ _)) (hj := (by omega)) (hn := hg) (r := ?_)
  refine tL_law_1154 (hd := (by omega)) (ha := (by first | assumption | (repeat (first | assumption | exact At.set_eq2 (by first | omega | (simp only [hset, hnew]; omega) | rfl | decide) | exact At.new_eq2 _ _ (by first | omega | (simp only [hset, hnew]; omega) | rfl | decide) | refine At.set_ne ?_ (by first | omega | (simp only [hset, hnew]; omega) | rfl | decide) | refine At.new_ne ?_)))) (call := c1) (k := ?_)
  rintro b1 h2 ⟨⟨vs2, am2⟩, hout, hj2⟩
  refine tL_law_1157  (r := ?_)
  refine tL_law_1159  (r := ?_)
  refine tL_law_1160 (hd := (by omega)) (ha := (by first | assumption | (repeat (first | assumption | exact At.set_eq2 (by first | omega | (simp only [hset, hnew]; omega) | rfl | decide) | exact At.new_eq2 _ _ (by first | omega | (simp only [hset, hnew]; omega) | rfl | decide) | refine At.set_ne ?_ (by first | omega | (simp only [hset, hnew]; omega) | rfl | decide) | refine At.new_ne ?_)))) (call := s_thrown (d := d2) am2) (k := ?_)
  rintro v3 h3 ⟨rfl, rfl⟩
  refine tL_law_1163  (r := ?_)
  refine tL_law_1165  (kf := fun c_ => by exfalso; exact c_ rfl) (kt := fun _ => ?_)
  refine tL_law_1170  (r := ?_)
  refine tL_law_1172  (kt := fun c_1172 => ?_) (kf := fun c_1172 => ?_)
  · refine tL_law_1187 (r := ?_)
    exact kn _ _ _ _ _ hj2
  · obtain ⟨f, af, hf⟩ := hout (by simpa using c_1172)
    refine tL_law_1175  (r := ?_)
    refine tL_law_1176  (r := ?_)
    refine tL_law_1177 (ha := (by first | assumption | (repeat (first | assumption | exact At.set_eq2 (by first | omega | (simp only [hset, hnew]; omega) | rfl | decide) | exact At.new_eq2 _ _ (by first | omega | (simp only [hset, hnew]; omega) | rfl | decide) | refine At.set_ne ?_ (by first | omega | (simp only [hset, hnew]; omega) | rfl | decide) | refine At.new_ne ?_)))) (hx := rfl) (hj := (by decide)) (hn := (by decide)) (r := ?_)
    refine tL_law_1178  (r := ?_)
    refine tL_law_1180  (r := ?_)
    refine tL_law_1181  (r := ?_)
    refine tL_law_1182  (kf := fun c_ => by exfalso; exact c_ ((lg_cmp_eq _ _).mpr hf)) (kt := fun _ => ?_)
    refine tL_law_1187 (r := ?_)
    exact kn _ _ _ _ _ hj2

def Kc_leading (G : GT) (d2 x m _out : Nat) (J : Nat → AH → Prop) (n : Nat) : Prop := ∀ (h : AH), J n h → (∃ vs, At h x (.inr (8, vs))) ∧ RQ G mX10_leading d2 0 [some (.ref x), none, none, none] [] h (Ri fun a h1 => (∃ vs, At h1 m (.inr (10, vs))) ∧ RQ G mX12_leading d2 0 [some (.ref m)] [] h1 (Ri fun b h2 => a = b ∧ J (n + 1) h2))
set_option maxHeartbeats 4000000 in
set_option maxRecDepth 100000 in
theorem lc_21 {d2 x m out i n : Nat} {J : Nat → AH → Prop} {P : OC → AH → Prop} {x5 x6 x7 x8 : Option Value} (hd : d2 + 1 ≤ d) (hg : gN G < 2147483648) (hi : i + 5 < gN G) (C : Kc_leading G d2 x m out J n) (hj : J n h) (kn : ∀ (h2 : AH) (x5 x6 x7 x8 : Option Value), J (n + 1) h2 → RQ G mL_law d 2189 [some (.ref (OLD + 999)), some (.ref x), some (.ref m), some (.ref out), some (.int (nI i)), x5, x6, x7, x8] [] h2 P) : RQ G mL_law d 1190 [some (.ref (OLD + 999)), some (.ref x), some (.ref m), some (.ref out), some (.int (nI i)), x5, x6, x7, x8] [] h P := by
  obtain ⟨⟨vs0, ax0⟩, c0⟩ := C _ hj
  refine tL_law_1190  (r := ?_)
  refine tL_law_1191 (hd := (by omega)) (ha := (by first | assumption | (repeat (first | assumption | exact At.set_eq2 (by first | omega | (simp only [hset, hnew]; omega) | rfl | decide) | exact At.new_eq2 _ _ (by first | omega | (simp only [hset, hnew]; omega) | rfl | decide) | refine At.set_ne ?_ (by first | omega | (simp only [hset, hnew]; omega) | rfl | decide) | refine At.new_ne ?_)))) (call := c0) (k := ?_)
  rintro k1 h1 ⟨⟨vs1, am1⟩, c1⟩
  refine tL_law_1194  (r := ?_)
  refine tL_law_1195 (hd := (by omega)) (ha := (by first | assumption | (repeat (first | assumption | exact At.set_eq2 (by first | omega | (simp only [hset, hnew]; omega) | rfl | decide) | exact At.new_eq2 _ _ (by first | omega | (simp only [hset, hnew]; omega) | rfl | decide) | refine At.set_ne ?_ (by first | omega | (simp only [hset, hnew]; omega) | rfl | decide) | refine At.new_ne ?_)))) (call := c1) (k := ?_)
  rintro b1 h2 ⟨rfl, hj2⟩
  refine tL_law_1198  (kf := fun c_ => by exfalso; exact c_ rfl) (kt := fun _ => ?_)
  exact kn _ _ _ _ _ hj2

def Kc_hasMajority (G : GT) (d2 x m out : Nat) (J : Nat → AH → Prop) (n : Nat) : Prop := ∀ (h : AH) (a0 : Int32), J n h → RQ G mL_hasMajority d2 0 [some (.ref x), some (.int a0), some (.ref out), none] [] h (Ri fun k h1 => (∃ vs, At h1 m (.inr (10, vs))) ∧ RQ G mX12_hasMajority d2 0 [some (.ref m), some (.int a0)] [] h1 (Ri fun b h2 => (∃ vs, At h2 m (.inr (10, .int k :: vs))) ∧ (k = 0 → ∃ f : Nat → Int64, At h2 out (.inl (2, 1, .inr (.inl f))) ∧ f 0 = b.toInt64) ∧ (b = nI 0 ∨ b = nI 1) ∧ J (n + 1) h2))
set_option maxHeartbeats 4000000 in
set_option maxRecDepth 100000 in
theorem lc_22 {d2 x m out i n : Nat} {J : Nat → AH → Prop} {P : OC → AH → Prop} {x5 x6 x7 x8 : Option Value} (hd : d2 + 1 ≤ d) (hg : gN G < 2147483648) (hi : i + 5 < gN G) (C : Kc_hasMajority G d2 x m out J n) (hj : J n h) (kn : ∀ (h2 : AH) (x5 x6 x7 x8 : Option Value), J (n + 1) h2 → RQ G mL_law d 2189 [some (.ref (OLD + 999)), some (.ref x), some (.ref m), some (.ref out), some (.int (nI i)), x5, x6, x7, x8] [] h2 P) : RQ G mL_law d 1203 [some (.ref (OLD + 999)), some (.ref x), some (.ref m), some (.ref out), some (.int (nI i)), x5, x6, x7, x8] [] h P := by
  refine tL_law_1203  (r := ?_)
  refine tL_law_1204  (r := ?_)
  refine tL_law_1205  (r := ?_)
  refine tL_law_1207  (r := ?_)
  refine tL_law_1208  (r := ?_)
  refine tL_law_1209 (hx := (nI_add _ _)) (hj := (by omega)) (hn := hg) (r := ?_)
  refine tL_law_1210  (r := ?_)
  refine tL_law_1211 (hd := (by omega)) (call := C _ _ hj) (k := ?_)
  rintro k1 h1 ⟨⟨vs1, am1⟩, c1⟩
  refine tL_law_1214  (r := ?_)
  refine tL_law_1216  (r := ?_)
  refine tL_law_1217  (r := ?_)
  refine tL_law_1218  (r := ?_)
  refine tL_law_1220  (r := ?_)
  refine tL_law_1221  (r := ?_)
  refine tL_law_1222 (hx := (nI_add _ _)) (hj := (by omega)) (hn := hg) (r := ?_)
  refine tL_law_1223 (hd := (by omega)) (ha := (by first | assumption | (repeat (first | assumption | exact At.set_eq2 (by first | omega | (simp only [hset, hnew]; omega) | rfl | decide) | exact At.new_eq2 _ _ (by first | omega | (simp only [hset, hnew]; omega) | rfl | decide) | refine At.set_ne ?_ (by first | omega | (simp only [hset, hnew]; omega) | rfl | decide) | refine At.new_ne ?_)))) (call := c1) (k := ?_)
  rintro b1 h2 ⟨⟨vs2, am2⟩, hout, hbo, hj2⟩
  refine tL_law_1226  (r := ?_)
  refine tL_law_1228  (r := ?_)
  refine tL_law_1229 (hd := (by omega)) (ha := (by first | assumption | (repeat (first | assumption | exact At.set_eq2 (by first | omega | (simp only [hset, hnew]; omega) | rfl | decide) | exact At.new_eq2 _ _ (by first | omega | (simp only [hset, hnew]; omega) | rfl | decide) | refine At.set_ne ?_ (by first | omega | (simp only [hset, hnew]; omega) | rfl | decide) | refine At.new_ne ?_)))) (call := s_thrown (d := d2) am2) (k := ?_)
  rintro v3 h3 ⟨rfl, rfl⟩
  refine tL_law_1232  (r := ?_)
  refine tL_law_1234  (kf := fun c_ => by exfalso; exact c_ rfl) (kt := fun _ => ?_)
  refine tL_law_1239  (r := ?_)
  refine tL_law_1241  (kt := fun c_1241 => ?_) (kf := fun c_1241 => ?_)
  · refine tL_law_1263 (r := ?_)
    exact kn _ _ _ _ _ hj2
  · obtain ⟨f, af, hf⟩ := hout (by simpa using c_1241)
    refine tL_law_1244  (r := ?_)
    refine tL_law_1245  (r := ?_)
    refine tL_law_1246 (ha := (by first | assumption | (repeat (first | assumption | exact At.set_eq2 (by first | omega | (simp only [hset, hnew]; omega) | rfl | decide) | exact At.new_eq2 _ _ (by first | omega | (simp only [hset, hnew]; omega) | rfl | decide) | refine At.set_ne ?_ (by first | omega | (simp only [hset, hnew]; omega) | rfl | decide) | refine At.new_ne ?_)))) (hx := rfl) (hj := (by decide)) (hn := (by decide)) (r := ?_)
    refine tL_law_1247  (r := ?_)
    refine tL_law_1249  (kt := fun c_1249 => ?_) (kf := fun c_1249 => ?_)
    · refine tL_law_1256  (r := ?_)
      refine tL_law_1257  (r := ?_)
      refine tL_law_1258  (kf := fun c_ => by exfalso; exact c_ ((lg_cmp_eq _ _).mpr (by rw [hf, c_1249]; decide))) (kt := fun _ => ?_)
      refine tL_law_1263 (r := ?_)
      exact kn _ _ _ _ _ hj2
    · refine tL_law_1252  (r := ?_)
      refine tL_law_1253 (r := ?_)
      refine tL_law_1257  (r := ?_)
      refine tL_law_1258  (kf := fun c_ => by exfalso; exact c_ ((lg_cmp_eq _ _).mpr (by rcases hbo with e_ | e_ <;> first | exact absurd (e_.trans nI_0) c_1249 | (rw [hf, e_]; decide)))) (kt := fun _ => ?_)
      refine tL_law_1263 (r := ?_)
      exact kn _ _ _ _ _ hj2

def Kc_jarOfLid (G : GT) (d2 x m out : Nat) (J : Nat → AH → Prop) (n : Nat) : Prop := ∀ (h : AH) (a0 : Int32), J n h → RQ G mL_jarOfLid d2 0 [some (.ref x), some (.int a0), some (.ref out), none] [] h (Ri fun k h1 => (∃ vs, At h1 m (.inr (10, vs))) ∧ RQ G mX12_jarOfLid d2 0 [some (.ref m), some (.int a0)] [] h1 (Ri fun b h2 => (∃ vs, At h2 m (.inr (10, .int k :: vs))) ∧ (k = 0 → ∃ f : Nat → Int64, At h2 out (.inl (2, 1, .inr (.inl f))) ∧ f 0 = b.toInt64) ∧ J (n + 1) h2))
set_option maxHeartbeats 4000000 in
set_option maxRecDepth 100000 in
theorem lc_23 {d2 x m out i n : Nat} {J : Nat → AH → Prop} {P : OC → AH → Prop} {x5 x6 x7 x8 : Option Value} (hd : d2 + 1 ≤ d) (hg : gN G < 2147483648) (hi : i + 5 < gN G) (C : Kc_jarOfLid G d2 x m out J n) (hj : J n h) (kn : ∀ (h2 : AH) (x5 x6 x7 x8 : Option Value), J (n + 1) h2 → RQ G mL_law d 2189 [some (.ref (OLD + 999)), some (.ref x), some (.ref m), some (.ref out), some (.int (nI i)), x5, x6, x7, x8] [] h2 P) : RQ G mL_law d 1266 [some (.ref (OLD + 999)), some (.ref x), some (.ref m), some (.ref out), some (.int (nI i)), x5, x6, x7, x8] [] h P := by
  refine tL_law_1266  (r := ?_)
  refine tL_law_1267  (r := ?_)
  refine tL_law_1268  (r := ?_)
  refine tL_law_1270  (r := ?_)
  refine tL_law_1271  (r := ?_)
  refine tL_law_1272 (hx := (nI_add _ _)) (hj := (by omega)) (hn := hg) (r := ?_)
  refine tL_law_1273  (r := ?_)
  refine tL_law_1274 (hd := (by omega)) (call := C _ _ hj) (k := ?_)
  rintro k1 h1 ⟨⟨vs1, am1⟩, c1⟩
  refine tL_law_1277  (r := ?_)
  refine tL_law_1279  (r := ?_)
  refine tL_law_1280  (r := ?_)
  refine tL_law_1281  (r := ?_)
  refine tL_law_1283  (r := ?_)
  refine tL_law_1284  (r := ?_)
  refine tL_law_1285 (hx := (nI_add _ _)) (hj := (by omega)) (hn := hg) (r := ?_)
  refine tL_law_1286 (hd := (by omega)) (ha := (by first | assumption | (repeat (first | assumption | exact At.set_eq2 (by first | omega | (simp only [hset, hnew]; omega) | rfl | decide) | exact At.new_eq2 _ _ (by first | omega | (simp only [hset, hnew]; omega) | rfl | decide) | refine At.set_ne ?_ (by first | omega | (simp only [hset, hnew]; omega) | rfl | decide) | refine At.new_ne ?_)))) (call := c1) (k := ?_)
  rintro b1 h2 ⟨⟨vs2, am2⟩, hout, hj2⟩
  refine tL_law_1289  (r := ?_)
  refine tL_law_1291  (r := ?_)
  refine tL_law_1292 (hd := (by omega)) (ha := (by first | assumption | (repeat (first | assumption | exact At.set_eq2 (by first | omega | (simp only [hset, hnew]; omega) | rfl | decide) | exact At.new_eq2 _ _ (by first | omega | (simp only [hset, hnew]; omega) | rfl | decide) | refine At.set_ne ?_ (by first | omega | (simp only [hset, hnew]; omega) | rfl | decide) | refine At.new_ne ?_)))) (call := s_thrown (d := d2) am2) (k := ?_)
  rintro v3 h3 ⟨rfl, rfl⟩
  refine tL_law_1295  (r := ?_)
  refine tL_law_1297  (kf := fun c_ => by exfalso; exact c_ rfl) (kt := fun _ => ?_)
  refine tL_law_1302  (r := ?_)
  refine tL_law_1304  (kt := fun c_1304 => ?_) (kf := fun c_1304 => ?_)
  · refine tL_law_1319 (r := ?_)
    exact kn _ _ _ _ _ hj2
  · obtain ⟨f, af, hf⟩ := hout (by simpa using c_1304)
    refine tL_law_1307  (r := ?_)
    refine tL_law_1308  (r := ?_)
    refine tL_law_1309 (ha := (by first | assumption | (repeat (first | assumption | exact At.set_eq2 (by first | omega | (simp only [hset, hnew]; omega) | rfl | decide) | exact At.new_eq2 _ _ (by first | omega | (simp only [hset, hnew]; omega) | rfl | decide) | refine At.set_ne ?_ (by first | omega | (simp only [hset, hnew]; omega) | rfl | decide) | refine At.new_ne ?_)))) (hx := rfl) (hj := (by decide)) (hn := (by decide)) (r := ?_)
    refine tL_law_1310  (r := ?_)
    refine tL_law_1312  (r := ?_)
    refine tL_law_1313  (r := ?_)
    refine tL_law_1314  (kf := fun c_ => by exfalso; exact c_ ((lg_cmp_eq _ _).mpr hf)) (kt := fun _ => ?_)
    refine tL_law_1319 (r := ?_)
    exact kn _ _ _ _ _ hj2

def Kc_labelOfLid (G : GT) (d2 x m out : Nat) (J : Nat → AH → Prop) (n : Nat) : Prop := ∀ (h : AH) (a0 : Int32), J n h → RQ G mL_labelOfLid d2 0 [some (.ref x), some (.int a0), some (.ref out), none] [] h (Ri fun k h1 => (∃ vs, At h1 m (.inr (10, vs))) ∧ RQ G mX12_labelOfLid d2 0 [some (.ref m), some (.int a0)] [] h1 (Ri fun b h2 => (∃ vs, At h2 m (.inr (10, .int k :: vs))) ∧ (k = 0 → ∃ f : Nat → Int64, At h2 out (.inl (2, 1, .inr (.inl f))) ∧ f 0 = b.toInt64) ∧ J (n + 1) h2))
set_option maxHeartbeats 4000000 in
set_option maxRecDepth 100000 in
theorem lc_24 {d2 x m out i n : Nat} {J : Nat → AH → Prop} {P : OC → AH → Prop} {x5 x6 x7 x8 : Option Value} (hd : d2 + 1 ≤ d) (hg : gN G < 2147483648) (hi : i + 5 < gN G) (C : Kc_labelOfLid G d2 x m out J n) (hj : J n h) (kn : ∀ (h2 : AH) (x5 x6 x7 x8 : Option Value), J (n + 1) h2 → RQ G mL_law d 2189 [some (.ref (OLD + 999)), some (.ref x), some (.ref m), some (.ref out), some (.int (nI i)), x5, x6, x7, x8] [] h2 P) : RQ G mL_law d 1322 [some (.ref (OLD + 999)), some (.ref x), some (.ref m), some (.ref out), some (.int (nI i)), x5, x6, x7, x8] [] h P := by
  refine tL_law_1322  (r := ?_)
  refine tL_law_1323  (r := ?_)
  refine tL_law_1324  (r := ?_)
  refine tL_law_1326  (r := ?_)
  refine tL_law_1327  (r := ?_)
  refine tL_law_1328 (hx := (nI_add _ _)) (hj := (by omega)) (hn := hg) (r := ?_)
  refine tL_law_1329  (r := ?_)
  refine tL_law_1330 (hd := (by omega)) (call := C _ _ hj) (k := ?_)
  rintro k1 h1 ⟨⟨vs1, am1⟩, c1⟩
  refine tL_law_1333  (r := ?_)
  refine tL_law_1335  (r := ?_)
  refine tL_law_1336  (r := ?_)
  refine tL_law_1337  (r := ?_)
  refine tL_law_1339  (r := ?_)
  refine tL_law_1340  (r := ?_)
  refine tL_law_1341 (hx := (nI_add _ _)) (hj := (by omega)) (hn := hg) (r := ?_)
  refine tL_law_1342 (hd := (by omega)) (ha := (by first | assumption | (repeat (first | assumption | exact At.set_eq2 (by first | omega | (simp only [hset, hnew]; omega) | rfl | decide) | exact At.new_eq2 _ _ (by first | omega | (simp only [hset, hnew]; omega) | rfl | decide) | refine At.set_ne ?_ (by first | omega | (simp only [hset, hnew]; omega) | rfl | decide) | refine At.new_ne ?_)))) (call := c1) (k := ?_)
  rintro b1 h2 ⟨⟨vs2, am2⟩, hout, hj2⟩
  refine tL_law_1345  (r := ?_)
  refine tL_law_1347  (r := ?_)
  refine tL_law_1348 (hd := (by omega)) (ha := (by first | assumption | (repeat (first | assumption | exact At.set_eq2 (by first | omega | (simp only [hset, hnew]; omega) | rfl | decide) | exact At.new_eq2 _ _ (by first | omega | (simp only [hset, hnew]; omega) | rfl | decide) | refine At.set_ne ?_ (by first | omega | (simp only [hset, hnew]; omega) | rfl | decide) | refine At.new_ne ?_)))) (call := s_thrown (d := d2) am2) (k := ?_)
  rintro v3 h3 ⟨rfl, rfl⟩
  refine tL_law_1351  (r := ?_)
  refine tL_law_1353  (kf := fun c_ => by exfalso; exact c_ rfl) (kt := fun _ => ?_)
  refine tL_law_1358  (r := ?_)
  refine tL_law_1360  (kt := fun c_1360 => ?_) (kf := fun c_1360 => ?_)
  · refine tL_law_1375 (r := ?_)
    exact kn _ _ _ _ _ hj2
  · obtain ⟨f, af, hf⟩ := hout (by simpa using c_1360)
    refine tL_law_1363  (r := ?_)
    refine tL_law_1364  (r := ?_)
    refine tL_law_1365 (ha := (by first | assumption | (repeat (first | assumption | exact At.set_eq2 (by first | omega | (simp only [hset, hnew]; omega) | rfl | decide) | exact At.new_eq2 _ _ (by first | omega | (simp only [hset, hnew]; omega) | rfl | decide) | refine At.set_ne ?_ (by first | omega | (simp only [hset, hnew]; omega) | rfl | decide) | refine At.new_ne ?_)))) (hx := rfl) (hj := (by decide)) (hn := (by decide)) (r := ?_)
    refine tL_law_1366  (r := ?_)
    refine tL_law_1368  (r := ?_)
    refine tL_law_1369  (r := ?_)
    refine tL_law_1370  (kf := fun c_ => by exfalso; exact c_ ((lg_cmp_eq _ _).mpr hf)) (kt := fun _ => ?_)
    refine tL_law_1375 (r := ?_)
    exact kn _ _ _ _ _ hj2

def Kc_ruleOfLid (G : GT) (d2 x m out : Nat) (J : Nat → AH → Prop) (n : Nat) : Prop := ∀ (h : AH) (a0 : Int32), J n h → RQ G mL_ruleOfLid d2 0 [some (.ref x), some (.int a0), some (.ref out), none] [] h (Ri fun k h1 => (∃ vs, At h1 m (.inr (10, vs))) ∧ RQ G mX12_ruleOfLid d2 0 [some (.ref m), some (.int a0)] [] h1 (Ri fun b h2 => (∃ vs, At h2 m (.inr (10, .int k :: vs))) ∧ (k = 0 → ∃ f : Nat → Int64, At h2 out (.inl (2, 1, .inr (.inl f))) ∧ f 0 = b.toInt64) ∧ J (n + 1) h2))
set_option maxHeartbeats 4000000 in
set_option maxRecDepth 100000 in
theorem lc_25 {d2 x m out i n : Nat} {J : Nat → AH → Prop} {P : OC → AH → Prop} {x5 x6 x7 x8 : Option Value} (hd : d2 + 1 ≤ d) (hg : gN G < 2147483648) (hi : i + 5 < gN G) (C : Kc_ruleOfLid G d2 x m out J n) (hj : J n h) (kn : ∀ (h2 : AH) (x5 x6 x7 x8 : Option Value), J (n + 1) h2 → RQ G mL_law d 2189 [some (.ref (OLD + 999)), some (.ref x), some (.ref m), some (.ref out), some (.int (nI i)), x5, x6, x7, x8] [] h2 P) : RQ G mL_law d 1378 [some (.ref (OLD + 999)), some (.ref x), some (.ref m), some (.ref out), some (.int (nI i)), x5, x6, x7, x8] [] h P := by
  refine tL_law_1378  (r := ?_)
  refine tL_law_1379  (r := ?_)
  refine tL_law_1380  (r := ?_)
  refine tL_law_1382  (r := ?_)
  refine tL_law_1383  (r := ?_)
  refine tL_law_1384 (hx := (nI_add _ _)) (hj := (by omega)) (hn := hg) (r := ?_)
  refine tL_law_1385  (r := ?_)
  refine tL_law_1386 (hd := (by omega)) (call := C _ _ hj) (k := ?_)
  rintro k1 h1 ⟨⟨vs1, am1⟩, c1⟩
  refine tL_law_1389  (r := ?_)
  refine tL_law_1391  (r := ?_)
  refine tL_law_1392  (r := ?_)
  refine tL_law_1393  (r := ?_)
  refine tL_law_1395  (r := ?_)
  refine tL_law_1396  (r := ?_)
  refine tL_law_1397 (hx := (nI_add _ _)) (hj := (by omega)) (hn := hg) (r := ?_)
  refine tL_law_1398 (hd := (by omega)) (ha := (by first | assumption | (repeat (first | assumption | exact At.set_eq2 (by first | omega | (simp only [hset, hnew]; omega) | rfl | decide) | exact At.new_eq2 _ _ (by first | omega | (simp only [hset, hnew]; omega) | rfl | decide) | refine At.set_ne ?_ (by first | omega | (simp only [hset, hnew]; omega) | rfl | decide) | refine At.new_ne ?_)))) (call := c1) (k := ?_)
  rintro b1 h2 ⟨⟨vs2, am2⟩, hout, hj2⟩
  refine tL_law_1401  (r := ?_)
  refine tL_law_1403  (r := ?_)
  refine tL_law_1404 (hd := (by omega)) (ha := (by first | assumption | (repeat (first | assumption | exact At.set_eq2 (by first | omega | (simp only [hset, hnew]; omega) | rfl | decide) | exact At.new_eq2 _ _ (by first | omega | (simp only [hset, hnew]; omega) | rfl | decide) | refine At.set_ne ?_ (by first | omega | (simp only [hset, hnew]; omega) | rfl | decide) | refine At.new_ne ?_)))) (call := s_thrown (d := d2) am2) (k := ?_)
  rintro v3 h3 ⟨rfl, rfl⟩
  refine tL_law_1407  (r := ?_)
  refine tL_law_1409  (kf := fun c_ => by exfalso; exact c_ rfl) (kt := fun _ => ?_)
  refine tL_law_1414  (r := ?_)
  refine tL_law_1416  (kt := fun c_1416 => ?_) (kf := fun c_1416 => ?_)
  · refine tL_law_1431 (r := ?_)
    exact kn _ _ _ _ _ hj2
  · obtain ⟨f, af, hf⟩ := hout (by simpa using c_1416)
    refine tL_law_1419  (r := ?_)
    refine tL_law_1420  (r := ?_)
    refine tL_law_1421 (ha := (by first | assumption | (repeat (first | assumption | exact At.set_eq2 (by first | omega | (simp only [hset, hnew]; omega) | rfl | decide) | exact At.new_eq2 _ _ (by first | omega | (simp only [hset, hnew]; omega) | rfl | decide) | refine At.set_ne ?_ (by first | omega | (simp only [hset, hnew]; omega) | rfl | decide) | refine At.new_ne ?_)))) (hx := rfl) (hj := (by decide)) (hn := (by decide)) (r := ?_)
    refine tL_law_1422  (r := ?_)
    refine tL_law_1424  (r := ?_)
    refine tL_law_1425  (r := ?_)
    refine tL_law_1426  (kf := fun c_ => by exfalso; exact c_ ((lg_cmp_eq _ _).mpr hf)) (kt := fun _ => ?_)
    refine tL_law_1431 (r := ?_)
    exact kn _ _ _ _ _ hj2

def Kc_pour (G : GT) (d2 x m out : Nat) (J : Nat → AH → Prop) (n : Nat) : Prop := ∀ (h : AH) (a0 a1 a2 a3 : Int32), J n h → RQ G mL_pour d2 0 [some (.ref x), some (.int a0), some (.int a1), some (.int a2), some (.int a3), some (.ref out), none] [] h (Ri fun k h1 => (∃ vs, At h1 m (.inr (10, vs))) ∧ RQ G mX12_pour d2 0 [some (.ref m), some (.int a0), some (.int a1), some (.int a2), some (.int a3)] [] h1 (Ri fun b h2 => (∃ vs, At h2 m (.inr (10, .int k :: vs))) ∧ (k = 0 → ∃ f : Nat → Int64, At h2 out (.inl (2, 1, .inr (.inl f))) ∧ f 0 = b.toInt64) ∧ J (n + 1) h2))
set_option maxHeartbeats 4000000 in
set_option maxRecDepth 100000 in
theorem lc_26 {d2 x m out i n : Nat} {J : Nat → AH → Prop} {P : OC → AH → Prop} {x5 x6 x7 x8 : Option Value} (hd : d2 + 1 ≤ d) (hg : gN G < 2147483648) (hi : i + 5 < gN G) (C : Kc_pour G d2 x m out J n) (hj : J n h) (kn : ∀ (h2 : AH) (x5 x6 x7 x8 : Option Value), J (n + 1) h2 → RQ G mL_law d 2189 [some (.ref (OLD + 999)), some (.ref x), some (.ref m), some (.ref out), some (.int (nI i)), x5, x6, x7, x8] [] h2 P) : RQ G mL_law d 1434 [some (.ref (OLD + 999)), some (.ref x), some (.ref m), some (.ref out), some (.int (nI i)), x5, x6, x7, x8] [] h P := by
  refine tL_law_1434  (r := ?_)
  refine tL_law_1435  (r := ?_)
  refine tL_law_1436  (r := ?_)
  refine tL_law_1438  (r := ?_)
  refine tL_law_1439  (r := ?_)
  refine tL_law_1440 (hx := (nI_add _ _)) (hj := (by omega)) (hn := hg) (r := ?_)
  refine tL_law_1441  (r := ?_)
  refine tL_law_1442  (r := ?_)
  refine tL_law_1444  (r := ?_)
  refine tL_law_1445  (r := ?_)
  refine tL_law_1446 (hx := (nI_add _ _)) (hj := (by omega)) (hn := hg) (r := ?_)
  refine tL_law_1447  (r := ?_)
  refine tL_law_1448  (r := ?_)
  refine tL_law_1450  (r := ?_)
  refine tL_law_1451  (r := ?_)
  refine tL_law_1452 (hx := (nI_add _ _)) (hj := (by omega)) (hn := hg) (r := ?_)
  refine tL_law_1453  (r := ?_)
  refine tL_law_1454  (r := ?_)
  refine tL_law_1456  (r := ?_)
  refine tL_law_1457  (r := ?_)
  refine tL_law_1458 (hx := (nI_add _ _)) (hj := (by omega)) (hn := hg) (r := ?_)
  refine tL_law_1459  (r := ?_)
  refine tL_law_1460 (hd := (by omega)) (call := C _ _ _ _ _ hj) (k := ?_)
  rintro k1 h1 ⟨⟨vs1, am1⟩, c1⟩
  refine tL_law_1463  (r := ?_)
  refine tL_law_1465  (r := ?_)
  refine tL_law_1466  (r := ?_)
  refine tL_law_1467  (r := ?_)
  refine tL_law_1469  (r := ?_)
  refine tL_law_1470  (r := ?_)
  refine tL_law_1471 (hx := (nI_add _ _)) (hj := (by omega)) (hn := hg) (r := ?_)
  refine tL_law_1472  (r := ?_)
  refine tL_law_1473  (r := ?_)
  refine tL_law_1475  (r := ?_)
  refine tL_law_1476  (r := ?_)
  refine tL_law_1477 (hx := (nI_add _ _)) (hj := (by omega)) (hn := hg) (r := ?_)
  refine tL_law_1478  (r := ?_)
  refine tL_law_1479  (r := ?_)
  refine tL_law_1481  (r := ?_)
  refine tL_law_1482  (r := ?_)
  refine tL_law_1483 (hx := (nI_add _ _)) (hj := (by omega)) (hn := hg) (r := ?_)
  refine tL_law_1484  (r := ?_)
  refine tL_law_1485  (r := ?_)
  refine tL_law_1487  (r := ?_)
  refine tL_law_1488  (r := ?_)
  refine tL_law_1489 (hx := (nI_add _ _)) (hj := (by omega)) (hn := hg) (r := ?_)
  refine tL_law_1490 (hd := (by omega)) (ha := (by first | assumption | (repeat (first | assumption | exact At.set_eq2 (by first | omega | (simp only [hset, hnew]; omega) | rfl | decide) | exact At.new_eq2 _ _ (by first | omega | (simp only [hset, hnew]; omega) | rfl | decide) | refine At.set_ne ?_ (by first | omega | (simp only [hset, hnew]; omega) | rfl | decide) | refine At.new_ne ?_)))) (call := c1) (k := ?_)
  rintro b1 h2 ⟨⟨vs2, am2⟩, hout, hj2⟩
  refine tL_law_1493  (r := ?_)
  refine tL_law_1495  (r := ?_)
  refine tL_law_1496 (hd := (by omega)) (ha := (by first | assumption | (repeat (first | assumption | exact At.set_eq2 (by first | omega | (simp only [hset, hnew]; omega) | rfl | decide) | exact At.new_eq2 _ _ (by first | omega | (simp only [hset, hnew]; omega) | rfl | decide) | refine At.set_ne ?_ (by first | omega | (simp only [hset, hnew]; omega) | rfl | decide) | refine At.new_ne ?_)))) (call := s_thrown (d := d2) am2) (k := ?_)
  rintro v3 h3 ⟨rfl, rfl⟩
  refine tL_law_1499  (r := ?_)
  refine tL_law_1501  (kf := fun c_ => by exfalso; exact c_ rfl) (kt := fun _ => ?_)
  refine tL_law_1506  (r := ?_)
  refine tL_law_1508  (kt := fun c_1508 => ?_) (kf := fun c_1508 => ?_)
  · refine tL_law_1523 (r := ?_)
    exact kn _ _ _ _ _ hj2
  · obtain ⟨f, af, hf⟩ := hout (by simpa using c_1508)
    refine tL_law_1511  (r := ?_)
    refine tL_law_1512  (r := ?_)
    refine tL_law_1513 (ha := (by first | assumption | (repeat (first | assumption | exact At.set_eq2 (by first | omega | (simp only [hset, hnew]; omega) | rfl | decide) | exact At.new_eq2 _ _ (by first | omega | (simp only [hset, hnew]; omega) | rfl | decide) | refine At.set_ne ?_ (by first | omega | (simp only [hset, hnew]; omega) | rfl | decide) | refine At.new_ne ?_)))) (hx := rfl) (hj := (by decide)) (hn := (by decide)) (r := ?_)
    refine tL_law_1514  (r := ?_)
    refine tL_law_1516  (r := ?_)
    refine tL_law_1517  (r := ?_)
    refine tL_law_1518  (kf := fun c_ => by exfalso; exact c_ ((lg_cmp_eq _ _).mpr hf)) (kt := fun _ => ?_)
    refine tL_law_1523 (r := ?_)
    exact kn _ _ _ _ _ hj2

def Kc_shake (G : GT) (d2 x m out : Nat) (J : Nat → AH → Prop) (n : Nat) : Prop := ∀ (h : AH) (a0 : Int32), J n h → RQ G mL_shake d2 0 [some (.ref x), some (.int a0), some (.ref out), none] [] h (Ri fun k h1 => (∃ vs, At h1 m (.inr (10, vs))) ∧ RQ G mX12_shake d2 0 [some (.ref m), some (.int a0)] [] h1 (Ri fun b h2 => (∃ vs, At h2 m (.inr (10, .int k :: vs))) ∧ (k = 0 → ∃ f : Nat → Int64, At h2 out (.inl (2, 1, .inr (.inl f))) ∧ f 0 = b.toInt64) ∧ J (n + 1) h2))
set_option maxHeartbeats 4000000 in
set_option maxRecDepth 100000 in
theorem lc_27 {d2 x m out i n : Nat} {J : Nat → AH → Prop} {P : OC → AH → Prop} {x5 x6 x7 x8 : Option Value} (hd : d2 + 1 ≤ d) (hg : gN G < 2147483648) (hi : i + 5 < gN G) (C : Kc_shake G d2 x m out J n) (hj : J n h) (kn : ∀ (h2 : AH) (x5 x6 x7 x8 : Option Value), J (n + 1) h2 → RQ G mL_law d 2189 [some (.ref (OLD + 999)), some (.ref x), some (.ref m), some (.ref out), some (.int (nI i)), x5, x6, x7, x8] [] h2 P) : RQ G mL_law d 1526 [some (.ref (OLD + 999)), some (.ref x), some (.ref m), some (.ref out), some (.int (nI i)), x5, x6, x7, x8] [] h P := by
  refine tL_law_1526  (r := ?_)
  refine tL_law_1527  (r := ?_)
  refine tL_law_1528  (r := ?_)
  refine tL_law_1530  (r := ?_)
  refine tL_law_1531  (r := ?_)
  refine tL_law_1532 (hx := (nI_add _ _)) (hj := (by omega)) (hn := hg) (r := ?_)
  refine tL_law_1533  (r := ?_)
  refine tL_law_1534 (hd := (by omega)) (call := C _ _ hj) (k := ?_)
  rintro k1 h1 ⟨⟨vs1, am1⟩, c1⟩
  refine tL_law_1537  (r := ?_)
  refine tL_law_1539  (r := ?_)
  refine tL_law_1540  (r := ?_)
  refine tL_law_1541  (r := ?_)
  refine tL_law_1543  (r := ?_)
  refine tL_law_1544  (r := ?_)
  refine tL_law_1545 (hx := (nI_add _ _)) (hj := (by omega)) (hn := hg) (r := ?_)
  refine tL_law_1546 (hd := (by omega)) (ha := (by first | assumption | (repeat (first | assumption | exact At.set_eq2 (by first | omega | (simp only [hset, hnew]; omega) | rfl | decide) | exact At.new_eq2 _ _ (by first | omega | (simp only [hset, hnew]; omega) | rfl | decide) | refine At.set_ne ?_ (by first | omega | (simp only [hset, hnew]; omega) | rfl | decide) | refine At.new_ne ?_)))) (call := c1) (k := ?_)
  rintro b1 h2 ⟨⟨vs2, am2⟩, hout, hj2⟩
  refine tL_law_1549  (r := ?_)
  refine tL_law_1551  (r := ?_)
  refine tL_law_1552 (hd := (by omega)) (ha := (by first | assumption | (repeat (first | assumption | exact At.set_eq2 (by first | omega | (simp only [hset, hnew]; omega) | rfl | decide) | exact At.new_eq2 _ _ (by first | omega | (simp only [hset, hnew]; omega) | rfl | decide) | refine At.set_ne ?_ (by first | omega | (simp only [hset, hnew]; omega) | rfl | decide) | refine At.new_ne ?_)))) (call := s_thrown (d := d2) am2) (k := ?_)
  rintro v3 h3 ⟨rfl, rfl⟩
  refine tL_law_1555  (r := ?_)
  refine tL_law_1557  (kf := fun c_ => by exfalso; exact c_ rfl) (kt := fun _ => ?_)
  refine tL_law_1562  (r := ?_)
  refine tL_law_1564  (kt := fun c_1564 => ?_) (kf := fun c_1564 => ?_)
  · refine tL_law_1579 (r := ?_)
    exact kn _ _ _ _ _ hj2
  · obtain ⟨f, af, hf⟩ := hout (by simpa using c_1564)
    refine tL_law_1567  (r := ?_)
    refine tL_law_1568  (r := ?_)
    refine tL_law_1569 (ha := (by first | assumption | (repeat (first | assumption | exact At.set_eq2 (by first | omega | (simp only [hset, hnew]; omega) | rfl | decide) | exact At.new_eq2 _ _ (by first | omega | (simp only [hset, hnew]; omega) | rfl | decide) | refine At.set_ne ?_ (by first | omega | (simp only [hset, hnew]; omega) | rfl | decide) | refine At.new_ne ?_)))) (hx := rfl) (hj := (by decide)) (hn := (by decide)) (r := ?_)
    refine tL_law_1570  (r := ?_)
    refine tL_law_1572  (r := ?_)
    refine tL_law_1573  (r := ?_)
    refine tL_law_1574  (kf := fun c_ => by exfalso; exact c_ ((lg_cmp_eq _ _).mpr hf)) (kt := fun _ => ?_)
    refine tL_law_1579 (r := ?_)
    exact kn _ _ _ _ _ hj2

def Kc_putLid (G : GT) (d2 x m out : Nat) (J : Nat → AH → Prop) (n : Nat) : Prop := ∀ (h : AH) (a0 a1 : Int32), J n h → RQ G mL_putLid d2 0 [some (.ref x), some (.int a0), some (.int a1), some (.ref out), none] [] h (Ri fun k h1 => (∃ vs, At h1 m (.inr (10, vs))) ∧ RQ G mX12_putLid d2 0 [some (.ref m), some (.int a0), some (.int a1), none] [] h1 (Ri fun b h2 => (∃ vs, At h2 m (.inr (10, .int k :: vs))) ∧ (k = 0 → ∃ f : Nat → Int64, At h2 out (.inl (2, 1, .inr (.inl f))) ∧ f 0 = b.toInt64) ∧ J (n + 1) h2))
set_option maxHeartbeats 4000000 in
set_option maxRecDepth 100000 in
theorem lc_28 {d2 x m out i n : Nat} {J : Nat → AH → Prop} {P : OC → AH → Prop} {x5 x6 x7 x8 : Option Value} (hd : d2 + 1 ≤ d) (hg : gN G < 2147483648) (hi : i + 5 < gN G) (C : Kc_putLid G d2 x m out J n) (hj : J n h) (kn : ∀ (h2 : AH) (x5 x6 x7 x8 : Option Value), J (n + 1) h2 → RQ G mL_law d 2189 [some (.ref (OLD + 999)), some (.ref x), some (.ref m), some (.ref out), some (.int (nI i)), x5, x6, x7, x8] [] h2 P) : RQ G mL_law d 1582 [some (.ref (OLD + 999)), some (.ref x), some (.ref m), some (.ref out), some (.int (nI i)), x5, x6, x7, x8] [] h P := by
  refine tL_law_1582  (r := ?_)
  refine tL_law_1583  (r := ?_)
  refine tL_law_1584  (r := ?_)
  refine tL_law_1586  (r := ?_)
  refine tL_law_1587  (r := ?_)
  refine tL_law_1588 (hx := (nI_add _ _)) (hj := (by omega)) (hn := hg) (r := ?_)
  refine tL_law_1589  (r := ?_)
  refine tL_law_1590  (r := ?_)
  refine tL_law_1592  (r := ?_)
  refine tL_law_1593  (r := ?_)
  refine tL_law_1594 (hx := (nI_add _ _)) (hj := (by omega)) (hn := hg) (r := ?_)
  refine tL_law_1595  (r := ?_)
  refine tL_law_1596 (hd := (by omega)) (call := C _ _ _ hj) (k := ?_)
  rintro k1 h1 ⟨⟨vs1, am1⟩, c1⟩
  refine tL_law_1599  (r := ?_)
  refine tL_law_1601  (r := ?_)
  refine tL_law_1602  (r := ?_)
  refine tL_law_1603  (r := ?_)
  refine tL_law_1605  (r := ?_)
  refine tL_law_1606  (r := ?_)
  refine tL_law_1607 (hx := (nI_add _ _)) (hj := (by omega)) (hn := hg) (r := ?_)
  refine tL_law_1608  (r := ?_)
  refine tL_law_1609  (r := ?_)
  refine tL_law_1611  (r := ?_)
  refine tL_law_1612  (r := ?_)
  refine tL_law_1613 (hx := (nI_add _ _)) (hj := (by omega)) (hn := hg) (r := ?_)
  refine tL_law_1614 (hd := (by omega)) (ha := (by first | assumption | (repeat (first | assumption | exact At.set_eq2 (by first | omega | (simp only [hset, hnew]; omega) | rfl | decide) | exact At.new_eq2 _ _ (by first | omega | (simp only [hset, hnew]; omega) | rfl | decide) | refine At.set_ne ?_ (by first | omega | (simp only [hset, hnew]; omega) | rfl | decide) | refine At.new_ne ?_)))) (call := c1) (k := ?_)
  rintro b1 h2 ⟨⟨vs2, am2⟩, hout, hj2⟩
  refine tL_law_1617  (r := ?_)
  refine tL_law_1619  (r := ?_)
  refine tL_law_1620 (hd := (by omega)) (ha := (by first | assumption | (repeat (first | assumption | exact At.set_eq2 (by first | omega | (simp only [hset, hnew]; omega) | rfl | decide) | exact At.new_eq2 _ _ (by first | omega | (simp only [hset, hnew]; omega) | rfl | decide) | refine At.set_ne ?_ (by first | omega | (simp only [hset, hnew]; omega) | rfl | decide) | refine At.new_ne ?_)))) (call := s_thrown (d := d2) am2) (k := ?_)
  rintro v3 h3 ⟨rfl, rfl⟩
  refine tL_law_1623  (r := ?_)
  refine tL_law_1625  (kf := fun c_ => by exfalso; exact c_ rfl) (kt := fun _ => ?_)
  refine tL_law_1630  (r := ?_)
  refine tL_law_1632  (kt := fun c_1632 => ?_) (kf := fun c_1632 => ?_)
  · refine tL_law_1647 (r := ?_)
    exact kn _ _ _ _ _ hj2
  · obtain ⟨f, af, hf⟩ := hout (by simpa using c_1632)
    refine tL_law_1635  (r := ?_)
    refine tL_law_1636  (r := ?_)
    refine tL_law_1637 (ha := (by first | assumption | (repeat (first | assumption | exact At.set_eq2 (by first | omega | (simp only [hset, hnew]; omega) | rfl | decide) | exact At.new_eq2 _ _ (by first | omega | (simp only [hset, hnew]; omega) | rfl | decide) | refine At.set_ne ?_ (by first | omega | (simp only [hset, hnew]; omega) | rfl | decide) | refine At.new_ne ?_)))) (hx := rfl) (hj := (by decide)) (hn := (by decide)) (r := ?_)
    refine tL_law_1638  (r := ?_)
    refine tL_law_1640  (r := ?_)
    refine tL_law_1641  (r := ?_)
    refine tL_law_1642  (kf := fun c_ => by exfalso; exact c_ ((lg_cmp_eq _ _).mpr hf)) (kt := fun _ => ?_)
    refine tL_law_1647 (r := ?_)
    exact kn _ _ _ _ _ hj2

def Kc_join (G : GT) (d2 x m out : Nat) (J : Nat → AH → Prop) (n : Nat) : Prop := ∀ (h : AH) (a0 a1 : Int32), J n h → RQ G mL_join d2 0 [some (.ref x), some (.int a0), some (.int a1), some (.ref out), none] [] h (Ri fun k h1 => (∃ vs, At h1 m (.inr (10, vs))) ∧ RQ G mX12_join d2 0 [some (.ref m), some (.int a0), some (.int a1)] [] h1 (Ri fun b h2 => (∃ vs, At h2 m (.inr (10, .int k :: vs))) ∧ (k = 0 → ∃ f : Nat → Int64, At h2 out (.inl (2, 1, .inr (.inl f))) ∧ f 0 = b.toInt64) ∧ J (n + 1) h2))
set_option maxHeartbeats 4000000 in
set_option maxRecDepth 100000 in
theorem lc_29 {d2 x m out i n : Nat} {J : Nat → AH → Prop} {P : OC → AH → Prop} {x5 x6 x7 x8 : Option Value} (hd : d2 + 1 ≤ d) (hg : gN G < 2147483648) (hi : i + 5 < gN G) (C : Kc_join G d2 x m out J n) (hj : J n h) (kn : ∀ (h2 : AH) (x5 x6 x7 x8 : Option Value), J (n + 1) h2 → RQ G mL_law d 2189 [some (.ref (OLD + 999)), some (.ref x), some (.ref m), some (.ref out), some (.int (nI i)), x5, x6, x7, x8] [] h2 P) : RQ G mL_law d 1650 [some (.ref (OLD + 999)), some (.ref x), some (.ref m), some (.ref out), some (.int (nI i)), x5, x6, x7, x8] [] h P := by
  refine tL_law_1650  (r := ?_)
  refine tL_law_1651  (r := ?_)
  refine tL_law_1652  (r := ?_)
  refine tL_law_1654  (r := ?_)
  refine tL_law_1655  (r := ?_)
  refine tL_law_1656 (hx := (nI_add _ _)) (hj := (by omega)) (hn := hg) (r := ?_)
  refine tL_law_1657  (r := ?_)
  refine tL_law_1658  (r := ?_)
  refine tL_law_1660  (r := ?_)
  refine tL_law_1661  (r := ?_)
  refine tL_law_1662 (hx := (nI_add _ _)) (hj := (by omega)) (hn := hg) (r := ?_)
  refine tL_law_1663  (r := ?_)
  refine tL_law_1664 (hd := (by omega)) (call := C _ _ _ hj) (k := ?_)
  rintro k1 h1 ⟨⟨vs1, am1⟩, c1⟩
  refine tL_law_1667  (r := ?_)
  refine tL_law_1669  (r := ?_)
  refine tL_law_1670  (r := ?_)
  refine tL_law_1671  (r := ?_)
  refine tL_law_1673  (r := ?_)
  refine tL_law_1674  (r := ?_)
  refine tL_law_1675 (hx := (nI_add _ _)) (hj := (by omega)) (hn := hg) (r := ?_)
  refine tL_law_1676  (r := ?_)
  refine tL_law_1677  (r := ?_)
  refine tL_law_1679  (r := ?_)
  refine tL_law_1680  (r := ?_)
  refine tL_law_1681 (hx := (nI_add _ _)) (hj := (by omega)) (hn := hg) (r := ?_)
  refine tL_law_1682 (hd := (by omega)) (ha := (by first | assumption | (repeat (first | assumption | exact At.set_eq2 (by first | omega | (simp only [hset, hnew]; omega) | rfl | decide) | exact At.new_eq2 _ _ (by first | omega | (simp only [hset, hnew]; omega) | rfl | decide) | refine At.set_ne ?_ (by first | omega | (simp only [hset, hnew]; omega) | rfl | decide) | refine At.new_ne ?_)))) (call := c1) (k := ?_)
  rintro b1 h2 ⟨⟨vs2, am2⟩, hout, hj2⟩
  refine tL_law_1685  (r := ?_)
  refine tL_law_1687  (r := ?_)
  refine tL_law_1688 (hd := (by omega)) (ha := (by first | assumption | (repeat (first | assumption | exact At.set_eq2 (by first | omega | (simp only [hset, hnew]; omega) | rfl | decide) | exact At.new_eq2 _ _ (by first | omega | (simp only [hset, hnew]; omega) | rfl | decide) | refine At.set_ne ?_ (by first | omega | (simp only [hset, hnew]; omega) | rfl | decide) | refine At.new_ne ?_)))) (call := s_thrown (d := d2) am2) (k := ?_)
  rintro v3 h3 ⟨rfl, rfl⟩
  refine tL_law_1691  (r := ?_)
  refine tL_law_1693  (kf := fun c_ => by exfalso; exact c_ rfl) (kt := fun _ => ?_)
  refine tL_law_1698  (r := ?_)
  refine tL_law_1700  (kt := fun c_1700 => ?_) (kf := fun c_1700 => ?_)
  · refine tL_law_1715 (r := ?_)
    exact kn _ _ _ _ _ hj2
  · obtain ⟨f, af, hf⟩ := hout (by simpa using c_1700)
    refine tL_law_1703  (r := ?_)
    refine tL_law_1704  (r := ?_)
    refine tL_law_1705 (ha := (by first | assumption | (repeat (first | assumption | exact At.set_eq2 (by first | omega | (simp only [hset, hnew]; omega) | rfl | decide) | exact At.new_eq2 _ _ (by first | omega | (simp only [hset, hnew]; omega) | rfl | decide) | refine At.set_ne ?_ (by first | omega | (simp only [hset, hnew]; omega) | rfl | decide) | refine At.new_ne ?_)))) (hx := rfl) (hj := (by decide)) (hn := (by decide)) (r := ?_)
    refine tL_law_1706  (r := ?_)
    refine tL_law_1708  (r := ?_)
    refine tL_law_1709  (r := ?_)
    refine tL_law_1710  (kf := fun c_ => by exfalso; exact c_ ((lg_cmp_eq _ _).mpr hf)) (kt := fun _ => ?_)
    refine tL_law_1715 (r := ?_)
    exact kn _ _ _ _ _ hj2

def Kc_leave (G : GT) (d2 x m out : Nat) (J : Nat → AH → Prop) (n : Nat) : Prop := ∀ (h : AH) (a0 : Int32), J n h → RQ G mL_leave d2 0 [some (.ref x), some (.int a0), some (.ref out), none] [] h (Ri fun k h1 => (∃ vs, At h1 m (.inr (10, vs))) ∧ RQ G mX12_leave d2 0 [some (.ref m), some (.int a0), none] [] h1 (Ri fun b h2 => (∃ vs, At h2 m (.inr (10, .int k :: vs))) ∧ (k = 0 → ∃ f : Nat → Int64, At h2 out (.inl (2, 1, .inr (.inl f))) ∧ f 0 = b.toInt64) ∧ J (n + 1) h2))
set_option maxHeartbeats 4000000 in
set_option maxRecDepth 100000 in
theorem lc_30 {d2 x m out i n : Nat} {J : Nat → AH → Prop} {P : OC → AH → Prop} {x5 x6 x7 x8 : Option Value} (hd : d2 + 1 ≤ d) (hg : gN G < 2147483648) (hi : i + 5 < gN G) (C : Kc_leave G d2 x m out J n) (hj : J n h) (kn : ∀ (h2 : AH) (x5 x6 x7 x8 : Option Value), J (n + 1) h2 → RQ G mL_law d 2189 [some (.ref (OLD + 999)), some (.ref x), some (.ref m), some (.ref out), some (.int (nI i)), x5, x6, x7, x8] [] h2 P) : RQ G mL_law d 1718 [some (.ref (OLD + 999)), some (.ref x), some (.ref m), some (.ref out), some (.int (nI i)), x5, x6, x7, x8] [] h P := by
  refine tL_law_1718  (r := ?_)
  refine tL_law_1719  (r := ?_)
  refine tL_law_1720  (r := ?_)
  refine tL_law_1722  (r := ?_)
  refine tL_law_1723  (r := ?_)
  refine tL_law_1724 (hx := (nI_add _ _)) (hj := (by omega)) (hn := hg) (r := ?_)
  refine tL_law_1725  (r := ?_)
  refine tL_law_1726 (hd := (by omega)) (call := C _ _ hj) (k := ?_)
  rintro k1 h1 ⟨⟨vs1, am1⟩, c1⟩
  refine tL_law_1729  (r := ?_)
  refine tL_law_1731  (r := ?_)
  refine tL_law_1732  (r := ?_)
  refine tL_law_1733  (r := ?_)
  refine tL_law_1735  (r := ?_)
  refine tL_law_1736  (r := ?_)
  refine tL_law_1737 (hx := (nI_add _ _)) (hj := (by omega)) (hn := hg) (r := ?_)
  refine tL_law_1738 (hd := (by omega)) (ha := (by first | assumption | (repeat (first | assumption | exact At.set_eq2 (by first | omega | (simp only [hset, hnew]; omega) | rfl | decide) | exact At.new_eq2 _ _ (by first | omega | (simp only [hset, hnew]; omega) | rfl | decide) | refine At.set_ne ?_ (by first | omega | (simp only [hset, hnew]; omega) | rfl | decide) | refine At.new_ne ?_)))) (call := c1) (k := ?_)
  rintro b1 h2 ⟨⟨vs2, am2⟩, hout, hj2⟩
  refine tL_law_1741  (r := ?_)
  refine tL_law_1743  (r := ?_)
  refine tL_law_1744 (hd := (by omega)) (ha := (by first | assumption | (repeat (first | assumption | exact At.set_eq2 (by first | omega | (simp only [hset, hnew]; omega) | rfl | decide) | exact At.new_eq2 _ _ (by first | omega | (simp only [hset, hnew]; omega) | rfl | decide) | refine At.set_ne ?_ (by first | omega | (simp only [hset, hnew]; omega) | rfl | decide) | refine At.new_ne ?_)))) (call := s_thrown (d := d2) am2) (k := ?_)
  rintro v3 h3 ⟨rfl, rfl⟩
  refine tL_law_1747  (r := ?_)
  refine tL_law_1749  (kf := fun c_ => by exfalso; exact c_ rfl) (kt := fun _ => ?_)
  refine tL_law_1754  (r := ?_)
  refine tL_law_1756  (kt := fun c_1756 => ?_) (kf := fun c_1756 => ?_)
  · refine tL_law_1771 (r := ?_)
    exact kn _ _ _ _ _ hj2
  · obtain ⟨f, af, hf⟩ := hout (by simpa using c_1756)
    refine tL_law_1759  (r := ?_)
    refine tL_law_1760  (r := ?_)
    refine tL_law_1761 (ha := (by first | assumption | (repeat (first | assumption | exact At.set_eq2 (by first | omega | (simp only [hset, hnew]; omega) | rfl | decide) | exact At.new_eq2 _ _ (by first | omega | (simp only [hset, hnew]; omega) | rfl | decide) | refine At.set_ne ?_ (by first | omega | (simp only [hset, hnew]; omega) | rfl | decide) | refine At.new_ne ?_)))) (hx := rfl) (hj := (by decide)) (hn := (by decide)) (r := ?_)
    refine tL_law_1762  (r := ?_)
    refine tL_law_1764  (r := ?_)
    refine tL_law_1765  (r := ?_)
    refine tL_law_1766  (kf := fun c_ => by exfalso; exact c_ ((lg_cmp_eq _ _).mpr hf)) (kt := fun _ => ?_)
    refine tL_law_1771 (r := ?_)
    exact kn _ _ _ _ _ hj2

def Kc_pass (G : GT) (d2 x m out : Nat) (J : Nat → AH → Prop) (n : Nat) : Prop := ∀ (h : AH) (a0 : Int32), J n h → RQ G mL_pass d2 0 [some (.ref x), some (.int a0), some (.ref out), none] [] h (Ri fun k h1 => (∃ vs, At h1 m (.inr (10, vs))) ∧ RQ G mX12_pass d2 0 [some (.ref m), some (.int a0), none, none] [] h1 (Ri fun b h2 => (∃ vs, At h2 m (.inr (10, .int k :: vs))) ∧ (k = 0 → ∃ f : Nat → Int64, At h2 out (.inl (2, 1, .inr (.inl f))) ∧ f 0 = b.toInt64) ∧ J (n + 1) h2))
set_option maxHeartbeats 4000000 in
set_option maxRecDepth 100000 in
theorem lc_31 {d2 x m out i n : Nat} {J : Nat → AH → Prop} {P : OC → AH → Prop} {x5 x6 x7 x8 : Option Value} (hd : d2 + 1 ≤ d) (hg : gN G < 2147483648) (hi : i + 5 < gN G) (C : Kc_pass G d2 x m out J n) (hj : J n h) (kn : ∀ (h2 : AH) (x5 x6 x7 x8 : Option Value), J (n + 1) h2 → RQ G mL_law d 2189 [some (.ref (OLD + 999)), some (.ref x), some (.ref m), some (.ref out), some (.int (nI i)), x5, x6, x7, x8] [] h2 P) : RQ G mL_law d 1774 [some (.ref (OLD + 999)), some (.ref x), some (.ref m), some (.ref out), some (.int (nI i)), x5, x6, x7, x8] [] h P := by
  refine tL_law_1774  (r := ?_)
  refine tL_law_1775  (r := ?_)
  refine tL_law_1776  (r := ?_)
  refine tL_law_1778  (r := ?_)
  refine tL_law_1779  (r := ?_)
  refine tL_law_1780 (hx := (nI_add _ _)) (hj := (by omega)) (hn := hg) (r := ?_)
  refine tL_law_1781  (r := ?_)
  refine tL_law_1782 (hd := (by omega)) (call := C _ _ hj) (k := ?_)
  rintro k1 h1 ⟨⟨vs1, am1⟩, c1⟩
  refine tL_law_1785  (r := ?_)
  refine tL_law_1787  (r := ?_)
  refine tL_law_1788  (r := ?_)
  refine tL_law_1789  (r := ?_)
  refine tL_law_1791  (r := ?_)
  refine tL_law_1792  (r := ?_)
  refine tL_law_1793 (hx := (nI_add _ _)) (hj := (by omega)) (hn := hg) (r := ?_)
  refine tL_law_1794 (hd := (by omega)) (ha := (by first | assumption | (repeat (first | assumption | exact At.set_eq2 (by first | omega | (simp only [hset, hnew]; omega) | rfl | decide) | exact At.new_eq2 _ _ (by first | omega | (simp only [hset, hnew]; omega) | rfl | decide) | refine At.set_ne ?_ (by first | omega | (simp only [hset, hnew]; omega) | rfl | decide) | refine At.new_ne ?_)))) (call := c1) (k := ?_)
  rintro b1 h2 ⟨⟨vs2, am2⟩, hout, hj2⟩
  refine tL_law_1797  (r := ?_)
  refine tL_law_1799  (r := ?_)
  refine tL_law_1800 (hd := (by omega)) (ha := (by first | assumption | (repeat (first | assumption | exact At.set_eq2 (by first | omega | (simp only [hset, hnew]; omega) | rfl | decide) | exact At.new_eq2 _ _ (by first | omega | (simp only [hset, hnew]; omega) | rfl | decide) | refine At.set_ne ?_ (by first | omega | (simp only [hset, hnew]; omega) | rfl | decide) | refine At.new_ne ?_)))) (call := s_thrown (d := d2) am2) (k := ?_)
  rintro v3 h3 ⟨rfl, rfl⟩
  refine tL_law_1803  (r := ?_)
  refine tL_law_1805  (kf := fun c_ => by exfalso; exact c_ rfl) (kt := fun _ => ?_)
  refine tL_law_1810  (r := ?_)
  refine tL_law_1812  (kt := fun c_1812 => ?_) (kf := fun c_1812 => ?_)
  · refine tL_law_1827 (r := ?_)
    exact kn _ _ _ _ _ hj2
  · obtain ⟨f, af, hf⟩ := hout (by simpa using c_1812)
    refine tL_law_1815  (r := ?_)
    refine tL_law_1816  (r := ?_)
    refine tL_law_1817 (ha := (by first | assumption | (repeat (first | assumption | exact At.set_eq2 (by first | omega | (simp only [hset, hnew]; omega) | rfl | decide) | exact At.new_eq2 _ _ (by first | omega | (simp only [hset, hnew]; omega) | rfl | decide) | refine At.set_ne ?_ (by first | omega | (simp only [hset, hnew]; omega) | rfl | decide) | refine At.new_ne ?_)))) (hx := rfl) (hj := (by decide)) (hn := (by decide)) (r := ?_)
    refine tL_law_1818  (r := ?_)
    refine tL_law_1820  (r := ?_)
    refine tL_law_1821  (r := ?_)
    refine tL_law_1822  (kf := fun c_ => by exfalso; exact c_ ((lg_cmp_eq _ _).mpr hf)) (kt := fun _ => ?_)
    refine tL_law_1827 (r := ?_)
    exact kn _ _ _ _ _ hj2

def Kc_seatsAfter (G : GT) (d2 x m out : Nat) (J : Nat → AH → Prop) (n : Nat) : Prop := ∀ (h : AH) (a0 a1 : Int32), J n h → RQ G mL_seatsAfter d2 0 [some (.ref x), some (.int a0), some (.int a1), some (.ref out), none] [] h (Ri fun k h1 => (∃ vs, At h1 m (.inr (10, vs))) ∧ RQ G mX12_seatsAfter d2 0 [some (.ref m), some (.int a0), some (.int a1), none] [] h1 (Ri fun b h2 => (∃ vs, At h2 m (.inr (10, .int k :: vs))) ∧ (k = 0 → ∃ f : Nat → Int64, At h2 out (.inl (2, 1, .inr (.inl f))) ∧ f 0 = b.toInt64) ∧ J (n + 1) h2))
set_option maxHeartbeats 4000000 in
set_option maxRecDepth 100000 in
theorem lc_32 {d2 x m out i n : Nat} {J : Nat → AH → Prop} {P : OC → AH → Prop} {x5 x6 x7 x8 : Option Value} (hd : d2 + 1 ≤ d) (hg : gN G < 2147483648) (hi : i + 5 < gN G) (C : Kc_seatsAfter G d2 x m out J n) (hj : J n h) (kn : ∀ (h2 : AH) (x5 x6 x7 x8 : Option Value), J (n + 1) h2 → RQ G mL_law d 2189 [some (.ref (OLD + 999)), some (.ref x), some (.ref m), some (.ref out), some (.int (nI i)), x5, x6, x7, x8] [] h2 P) : RQ G mL_law d 1830 [some (.ref (OLD + 999)), some (.ref x), some (.ref m), some (.ref out), some (.int (nI i)), x5, x6, x7, x8] [] h P := by
  refine tL_law_1830  (r := ?_)
  refine tL_law_1831  (r := ?_)
  refine tL_law_1832  (r := ?_)
  refine tL_law_1834  (r := ?_)
  refine tL_law_1835  (r := ?_)
  refine tL_law_1836 (hx := (nI_add _ _)) (hj := (by omega)) (hn := hg) (r := ?_)
  refine tL_law_1837  (r := ?_)
  refine tL_law_1838  (r := ?_)
  refine tL_law_1840  (r := ?_)
  refine tL_law_1841  (r := ?_)
  refine tL_law_1842 (hx := (nI_add _ _)) (hj := (by omega)) (hn := hg) (r := ?_)
  refine tL_law_1843  (r := ?_)
  refine tL_law_1844 (hd := (by omega)) (call := C _ _ _ hj) (k := ?_)
  rintro k1 h1 ⟨⟨vs1, am1⟩, c1⟩
  refine tL_law_1847  (r := ?_)
  refine tL_law_1849  (r := ?_)
  refine tL_law_1850  (r := ?_)
  refine tL_law_1851  (r := ?_)
  refine tL_law_1853  (r := ?_)
  refine tL_law_1854  (r := ?_)
  refine tL_law_1855 (hx := (nI_add _ _)) (hj := (by omega)) (hn := hg) (r := ?_)
  refine tL_law_1856  (r := ?_)
  refine tL_law_1857  (r := ?_)
  refine tL_law_1859  (r := ?_)
  refine tL_law_1860  (r := ?_)
  refine tL_law_1861 (hx := (nI_add _ _)) (hj := (by omega)) (hn := hg) (r := ?_)
  refine tL_law_1862 (hd := (by omega)) (ha := (by first | assumption | (repeat (first | assumption | exact At.set_eq2 (by first | omega | (simp only [hset, hnew]; omega) | rfl | decide) | exact At.new_eq2 _ _ (by first | omega | (simp only [hset, hnew]; omega) | rfl | decide) | refine At.set_ne ?_ (by first | omega | (simp only [hset, hnew]; omega) | rfl | decide) | refine At.new_ne ?_)))) (call := c1) (k := ?_)
  rintro b1 h2 ⟨⟨vs2, am2⟩, hout, hj2⟩
  refine tL_law_1865  (r := ?_)
  refine tL_law_1867  (r := ?_)
  refine tL_law_1868 (hd := (by omega)) (ha := (by first | assumption | (repeat (first | assumption | exact At.set_eq2 (by first | omega | (simp only [hset, hnew]; omega) | rfl | decide) | exact At.new_eq2 _ _ (by first | omega | (simp only [hset, hnew]; omega) | rfl | decide) | refine At.set_ne ?_ (by first | omega | (simp only [hset, hnew]; omega) | rfl | decide) | refine At.new_ne ?_)))) (call := s_thrown (d := d2) am2) (k := ?_)
  rintro v3 h3 ⟨rfl, rfl⟩
  refine tL_law_1871  (r := ?_)
  refine tL_law_1873  (kf := fun c_ => by exfalso; exact c_ rfl) (kt := fun _ => ?_)
  refine tL_law_1878  (r := ?_)
  refine tL_law_1880  (kt := fun c_1880 => ?_) (kf := fun c_1880 => ?_)
  · refine tL_law_1895 (r := ?_)
    exact kn _ _ _ _ _ hj2
  · obtain ⟨f, af, hf⟩ := hout (by simpa using c_1880)
    refine tL_law_1883  (r := ?_)
    refine tL_law_1884  (r := ?_)
    refine tL_law_1885 (ha := (by first | assumption | (repeat (first | assumption | exact At.set_eq2 (by first | omega | (simp only [hset, hnew]; omega) | rfl | decide) | exact At.new_eq2 _ _ (by first | omega | (simp only [hset, hnew]; omega) | rfl | decide) | refine At.set_ne ?_ (by first | omega | (simp only [hset, hnew]; omega) | rfl | decide) | refine At.new_ne ?_)))) (hx := rfl) (hj := (by decide)) (hn := (by decide)) (r := ?_)
    refine tL_law_1886  (r := ?_)
    refine tL_law_1888  (r := ?_)
    refine tL_law_1889  (r := ?_)
    refine tL_law_1890  (kf := fun c_ => by exfalso; exact c_ ((lg_cmp_eq _ _).mpr hf)) (kt := fun _ => ?_)
    refine tL_law_1895 (r := ?_)
    exact kn _ _ _ _ _ hj2

def Kc_daysUntilMajority (G : GT) (d2 x m out : Nat) (J : Nat → AH → Prop) (n : Nat) : Prop := ∀ (h : AH) (a0 : Int32), J n h → RQ G mL_daysUntilMajority d2 0 [some (.ref x), some (.int a0), some (.ref out), none] [] h (Ri fun k h1 => (∃ vs, At h1 m (.inr (10, vs))) ∧ RQ G mX12_daysUntilMajority d2 0 [some (.ref m), some (.int a0), none] [] h1 (Ri fun b h2 => (∃ vs, At h2 m (.inr (10, .int k :: vs))) ∧ (k = 0 → ∃ f : Nat → Int64, At h2 out (.inl (2, 1, .inr (.inl f))) ∧ f 0 = b.toInt64) ∧ J (n + 1) h2))
set_option maxHeartbeats 4000000 in
set_option maxRecDepth 100000 in
theorem lc_33 {d2 x m out i n : Nat} {J : Nat → AH → Prop} {P : OC → AH → Prop} {x5 x6 x7 x8 : Option Value} (hd : d2 + 1 ≤ d) (hg : gN G < 2147483648) (hi : i + 5 < gN G) (C : Kc_daysUntilMajority G d2 x m out J n) (hj : J n h) (kn : ∀ (h2 : AH) (x5 x6 x7 x8 : Option Value), J (n + 1) h2 → RQ G mL_law d 2189 [some (.ref (OLD + 999)), some (.ref x), some (.ref m), some (.ref out), some (.int (nI i)), x5, x6, x7, x8] [] h2 P) : RQ G mL_law d 1898 [some (.ref (OLD + 999)), some (.ref x), some (.ref m), some (.ref out), some (.int (nI i)), x5, x6, x7, x8] [] h P := by
  refine tL_law_1898  (r := ?_)
  refine tL_law_1899  (r := ?_)
  refine tL_law_1900  (r := ?_)
  refine tL_law_1902  (r := ?_)
  refine tL_law_1903  (r := ?_)
  refine tL_law_1904 (hx := (nI_add _ _)) (hj := (by omega)) (hn := hg) (r := ?_)
  refine tL_law_1905  (r := ?_)
  refine tL_law_1906 (hd := (by omega)) (call := C _ _ hj) (k := ?_)
  rintro k1 h1 ⟨⟨vs1, am1⟩, c1⟩
  refine tL_law_1909  (r := ?_)
  refine tL_law_1911  (r := ?_)
  refine tL_law_1912  (r := ?_)
  refine tL_law_1913  (r := ?_)
  refine tL_law_1915  (r := ?_)
  refine tL_law_1916  (r := ?_)
  refine tL_law_1917 (hx := (nI_add _ _)) (hj := (by omega)) (hn := hg) (r := ?_)
  refine tL_law_1918 (hd := (by omega)) (ha := (by first | assumption | (repeat (first | assumption | exact At.set_eq2 (by first | omega | (simp only [hset, hnew]; omega) | rfl | decide) | exact At.new_eq2 _ _ (by first | omega | (simp only [hset, hnew]; omega) | rfl | decide) | refine At.set_ne ?_ (by first | omega | (simp only [hset, hnew]; omega) | rfl | decide) | refine At.new_ne ?_)))) (call := c1) (k := ?_)
  rintro b1 h2 ⟨⟨vs2, am2⟩, hout, hj2⟩
  refine tL_law_1921  (r := ?_)
  refine tL_law_1923  (r := ?_)
  refine tL_law_1924 (hd := (by omega)) (ha := (by first | assumption | (repeat (first | assumption | exact At.set_eq2 (by first | omega | (simp only [hset, hnew]; omega) | rfl | decide) | exact At.new_eq2 _ _ (by first | omega | (simp only [hset, hnew]; omega) | rfl | decide) | refine At.set_ne ?_ (by first | omega | (simp only [hset, hnew]; omega) | rfl | decide) | refine At.new_ne ?_)))) (call := s_thrown (d := d2) am2) (k := ?_)
  rintro v3 h3 ⟨rfl, rfl⟩
  refine tL_law_1927  (r := ?_)
  refine tL_law_1929  (kf := fun c_ => by exfalso; exact c_ rfl) (kt := fun _ => ?_)
  refine tL_law_1934  (r := ?_)
  refine tL_law_1936  (kt := fun c_1936 => ?_) (kf := fun c_1936 => ?_)
  · refine tL_law_1951 (r := ?_)
    exact kn _ _ _ _ _ hj2
  · obtain ⟨f, af, hf⟩ := hout (by simpa using c_1936)
    refine tL_law_1939  (r := ?_)
    refine tL_law_1940  (r := ?_)
    refine tL_law_1941 (ha := (by first | assumption | (repeat (first | assumption | exact At.set_eq2 (by first | omega | (simp only [hset, hnew]; omega) | rfl | decide) | exact At.new_eq2 _ _ (by first | omega | (simp only [hset, hnew]; omega) | rfl | decide) | refine At.set_ne ?_ (by first | omega | (simp only [hset, hnew]; omega) | rfl | decide) | refine At.new_ne ?_)))) (hx := rfl) (hj := (by decide)) (hn := (by decide)) (r := ?_)
    refine tL_law_1942  (r := ?_)
    refine tL_law_1944  (r := ?_)
    refine tL_law_1945  (r := ?_)
    refine tL_law_1946  (kf := fun c_ => by exfalso; exact c_ ((lg_cmp_eq _ _).mpr hf)) (kt := fun _ => ?_)
    refine tL_law_1951 (r := ?_)
    exact kn _ _ _ _ _ hj2

def Kc_beansToWin (G : GT) (d2 x m out : Nat) (J : Nat → AH → Prop) (n : Nat) : Prop := ∀ (h : AH) (a0 a1 : Int32), J n h → RQ G mL_beansToWin d2 0 [some (.ref x), some (.int a0), some (.int a1), some (.ref out), none] [] h (Ri fun k h1 => (∃ vs, At h1 m (.inr (10, vs))) ∧ RQ G mX12_beansToWin d2 0 [some (.ref m), some (.int a0), some (.int a1)] [] h1 (Ri fun b h2 => (∃ vs, At h2 m (.inr (10, .int k :: vs))) ∧ (k = 0 → ∃ f : Nat → Int64, At h2 out (.inl (2, 1, .inr (.inl f))) ∧ f 0 = b.toInt64) ∧ J (n + 1) h2))
set_option maxHeartbeats 4000000 in
set_option maxRecDepth 100000 in
theorem lc_34 {d2 x m out i n : Nat} {J : Nat → AH → Prop} {P : OC → AH → Prop} {x5 x6 x7 x8 : Option Value} (hd : d2 + 1 ≤ d) (hg : gN G < 2147483648) (hi : i + 5 < gN G) (C : Kc_beansToWin G d2 x m out J n) (hj : J n h) (kn : ∀ (h2 : AH) (x5 x6 x7 x8 : Option Value), J (n + 1) h2 → RQ G mL_law d 2189 [some (.ref (OLD + 999)), some (.ref x), some (.ref m), some (.ref out), some (.int (nI i)), x5, x6, x7, x8] [] h2 P) : RQ G mL_law d 1954 [some (.ref (OLD + 999)), some (.ref x), some (.ref m), some (.ref out), some (.int (nI i)), x5, x6, x7, x8] [] h P := by
  refine tL_law_1954  (r := ?_)
  refine tL_law_1955  (r := ?_)
  refine tL_law_1956  (r := ?_)
  refine tL_law_1958  (r := ?_)
  refine tL_law_1959  (r := ?_)
  refine tL_law_1960 (hx := (nI_add _ _)) (hj := (by omega)) (hn := hg) (r := ?_)
  refine tL_law_1961  (r := ?_)
  refine tL_law_1962  (r := ?_)
  refine tL_law_1964  (r := ?_)
  refine tL_law_1965  (r := ?_)
  refine tL_law_1966 (hx := (nI_add _ _)) (hj := (by omega)) (hn := hg) (r := ?_)
  refine tL_law_1967  (r := ?_)
  refine tL_law_1968 (hd := (by omega)) (call := C _ _ _ hj) (k := ?_)
  rintro k1 h1 ⟨⟨vs1, am1⟩, c1⟩
  refine tL_law_1971  (r := ?_)
  refine tL_law_1973  (r := ?_)
  refine tL_law_1974  (r := ?_)
  refine tL_law_1975  (r := ?_)
  refine tL_law_1977  (r := ?_)
  refine tL_law_1978  (r := ?_)
  refine tL_law_1979 (hx := (nI_add _ _)) (hj := (by omega)) (hn := hg) (r := ?_)
  refine tL_law_1980  (r := ?_)
  refine tL_law_1981  (r := ?_)
  refine tL_law_1983  (r := ?_)
  refine tL_law_1984  (r := ?_)
  refine tL_law_1985 (hx := (nI_add _ _)) (hj := (by omega)) (hn := hg) (r := ?_)
  refine tL_law_1986 (hd := (by omega)) (ha := (by first | assumption | (repeat (first | assumption | exact At.set_eq2 (by first | omega | (simp only [hset, hnew]; omega) | rfl | decide) | exact At.new_eq2 _ _ (by first | omega | (simp only [hset, hnew]; omega) | rfl | decide) | refine At.set_ne ?_ (by first | omega | (simp only [hset, hnew]; omega) | rfl | decide) | refine At.new_ne ?_)))) (call := c1) (k := ?_)
  rintro b1 h2 ⟨⟨vs2, am2⟩, hout, hj2⟩
  refine tL_law_1989  (r := ?_)
  refine tL_law_1991  (r := ?_)
  refine tL_law_1992 (hd := (by omega)) (ha := (by first | assumption | (repeat (first | assumption | exact At.set_eq2 (by first | omega | (simp only [hset, hnew]; omega) | rfl | decide) | exact At.new_eq2 _ _ (by first | omega | (simp only [hset, hnew]; omega) | rfl | decide) | refine At.set_ne ?_ (by first | omega | (simp only [hset, hnew]; omega) | rfl | decide) | refine At.new_ne ?_)))) (call := s_thrown (d := d2) am2) (k := ?_)
  rintro v3 h3 ⟨rfl, rfl⟩
  refine tL_law_1995  (r := ?_)
  refine tL_law_1997  (kf := fun c_ => by exfalso; exact c_ rfl) (kt := fun _ => ?_)
  refine tL_law_2002  (r := ?_)
  refine tL_law_2004  (kt := fun c_2004 => ?_) (kf := fun c_2004 => ?_)
  · refine tL_law_2019 (r := ?_)
    exact kn _ _ _ _ _ hj2
  · obtain ⟨f, af, hf⟩ := hout (by simpa using c_2004)
    refine tL_law_2007  (r := ?_)
    refine tL_law_2008  (r := ?_)
    refine tL_law_2009 (ha := (by first | assumption | (repeat (first | assumption | exact At.set_eq2 (by first | omega | (simp only [hset, hnew]; omega) | rfl | decide) | exact At.new_eq2 _ _ (by first | omega | (simp only [hset, hnew]; omega) | rfl | decide) | refine At.set_ne ?_ (by first | omega | (simp only [hset, hnew]; omega) | rfl | decide) | refine At.new_ne ?_)))) (hx := rfl) (hj := (by decide)) (hn := (by decide)) (r := ?_)
    refine tL_law_2010  (r := ?_)
    refine tL_law_2012  (r := ?_)
    refine tL_law_2013  (r := ?_)
    refine tL_law_2014  (kf := fun c_ => by exfalso; exact c_ ((lg_cmp_eq _ _).mpr hf)) (kt := fun _ => ?_)
    refine tL_law_2019 (r := ?_)
    exact kn _ _ _ _ _ hj2

def Kc_bestJarFor (G : GT) (d2 x m out : Nat) (J : Nat → AH → Prop) (n : Nat) : Prop := ∀ (h : AH) (a0 : Int32), J n h → RQ G mL_bestJarFor d2 0 [some (.ref x), some (.int a0), some (.ref out), none] [] h (Ri fun k h1 => (∃ vs, At h1 m (.inr (10, vs))) ∧ RQ G mX12_bestJarFor d2 0 [some (.ref m), some (.int a0)] [] h1 (Ri fun b h2 => (∃ vs, At h2 m (.inr (10, .int k :: vs))) ∧ (k = 0 → ∃ f : Nat → Int64, At h2 out (.inl (2, 1, .inr (.inl f))) ∧ f 0 = b.toInt64) ∧ J (n + 1) h2))
set_option maxHeartbeats 4000000 in
set_option maxRecDepth 100000 in
theorem lc_35 {d2 x m out i n : Nat} {J : Nat → AH → Prop} {P : OC → AH → Prop} {x5 x6 x7 x8 : Option Value} (hd : d2 + 1 ≤ d) (hg : gN G < 2147483648) (hi : i + 5 < gN G) (C : Kc_bestJarFor G d2 x m out J n) (hj : J n h) (kn : ∀ (h2 : AH) (x5 x6 x7 x8 : Option Value), J (n + 1) h2 → RQ G mL_law d 2189 [some (.ref (OLD + 999)), some (.ref x), some (.ref m), some (.ref out), some (.int (nI i)), x5, x6, x7, x8] [] h2 P) : RQ G mL_law d 2022 [some (.ref (OLD + 999)), some (.ref x), some (.ref m), some (.ref out), some (.int (nI i)), x5, x6, x7, x8] [] h P := by
  refine tL_law_2022  (r := ?_)
  refine tL_law_2023  (r := ?_)
  refine tL_law_2024  (r := ?_)
  refine tL_law_2026  (r := ?_)
  refine tL_law_2027  (r := ?_)
  refine tL_law_2028 (hx := (nI_add _ _)) (hj := (by omega)) (hn := hg) (r := ?_)
  refine tL_law_2029  (r := ?_)
  refine tL_law_2030 (hd := (by omega)) (call := C _ _ hj) (k := ?_)
  rintro k1 h1 ⟨⟨vs1, am1⟩, c1⟩
  refine tL_law_2033  (r := ?_)
  refine tL_law_2035  (r := ?_)
  refine tL_law_2036  (r := ?_)
  refine tL_law_2037  (r := ?_)
  refine tL_law_2039  (r := ?_)
  refine tL_law_2040  (r := ?_)
  refine tL_law_2041 (hx := (nI_add _ _)) (hj := (by omega)) (hn := hg) (r := ?_)
  refine tL_law_2042 (hd := (by omega)) (ha := (by first | assumption | (repeat (first | assumption | exact At.set_eq2 (by first | omega | (simp only [hset, hnew]; omega) | rfl | decide) | exact At.new_eq2 _ _ (by first | omega | (simp only [hset, hnew]; omega) | rfl | decide) | refine At.set_ne ?_ (by first | omega | (simp only [hset, hnew]; omega) | rfl | decide) | refine At.new_ne ?_)))) (call := c1) (k := ?_)
  rintro b1 h2 ⟨⟨vs2, am2⟩, hout, hj2⟩
  refine tL_law_2045  (r := ?_)
  refine tL_law_2047  (r := ?_)
  refine tL_law_2048 (hd := (by omega)) (ha := (by first | assumption | (repeat (first | assumption | exact At.set_eq2 (by first | omega | (simp only [hset, hnew]; omega) | rfl | decide) | exact At.new_eq2 _ _ (by first | omega | (simp only [hset, hnew]; omega) | rfl | decide) | refine At.set_ne ?_ (by first | omega | (simp only [hset, hnew]; omega) | rfl | decide) | refine At.new_ne ?_)))) (call := s_thrown (d := d2) am2) (k := ?_)
  rintro v3 h3 ⟨rfl, rfl⟩
  refine tL_law_2051  (r := ?_)
  refine tL_law_2053  (kf := fun c_ => by exfalso; exact c_ rfl) (kt := fun _ => ?_)
  refine tL_law_2058  (r := ?_)
  refine tL_law_2060  (kt := fun c_2060 => ?_) (kf := fun c_2060 => ?_)
  · refine tL_law_2075 (r := ?_)
    exact kn _ _ _ _ _ hj2
  · obtain ⟨f, af, hf⟩ := hout (by simpa using c_2060)
    refine tL_law_2063  (r := ?_)
    refine tL_law_2064  (r := ?_)
    refine tL_law_2065 (ha := (by first | assumption | (repeat (first | assumption | exact At.set_eq2 (by first | omega | (simp only [hset, hnew]; omega) | rfl | decide) | exact At.new_eq2 _ _ (by first | omega | (simp only [hset, hnew]; omega) | rfl | decide) | refine At.set_ne ?_ (by first | omega | (simp only [hset, hnew]; omega) | rfl | decide) | refine At.new_ne ?_)))) (hx := rfl) (hj := (by decide)) (hn := (by decide)) (r := ?_)
    refine tL_law_2066  (r := ?_)
    refine tL_law_2068  (r := ?_)
    refine tL_law_2069  (r := ?_)
    refine tL_law_2070  (kf := fun c_ => by exfalso; exact c_ ((lg_cmp_eq _ _).mpr hf)) (kt := fun _ => ?_)
    refine tL_law_2075 (r := ?_)
    exact kn _ _ _ _ _ hj2

def Kc_firstShaken (G : GT) (d2 x m out : Nat) (J : Nat → AH → Prop) (n : Nat) : Prop := ∀ (h : AH) (a0 : Int32), J n h → RQ G mL_firstShaken d2 0 [some (.ref x), some (.int a0), some (.ref out), none] [] h (Ri fun k h1 => (∃ vs, At h1 m (.inr (10, vs))) ∧ RQ G mX12_firstShaken d2 0 [some (.ref m), some (.int a0)] [] h1 (Ri fun b h2 => (∃ vs, At h2 m (.inr (10, .int k :: vs))) ∧ (k = 0 → ∃ f : Nat → Int64, At h2 out (.inl (2, 1, .inr (.inl f))) ∧ f 0 = b.toInt64) ∧ J (n + 1) h2))
set_option maxHeartbeats 4000000 in
set_option maxRecDepth 100000 in
theorem lc_36 {d2 x m out i n : Nat} {J : Nat → AH → Prop} {P : OC → AH → Prop} {x5 x6 x7 x8 : Option Value} (hd : d2 + 1 ≤ d) (hg : gN G < 2147483648) (hi : i + 5 < gN G) (C : Kc_firstShaken G d2 x m out J n) (hj : J n h) (kn : ∀ (h2 : AH) (x5 x6 x7 x8 : Option Value), J (n + 1) h2 → RQ G mL_law d 2189 [some (.ref (OLD + 999)), some (.ref x), some (.ref m), some (.ref out), some (.int (nI i)), x5, x6, x7, x8] [] h2 P) : RQ G mL_law d 2078 [some (.ref (OLD + 999)), some (.ref x), some (.ref m), some (.ref out), some (.int (nI i)), x5, x6, x7, x8] [] h P := by
  refine tL_law_2078  (r := ?_)
  refine tL_law_2079  (r := ?_)
  refine tL_law_2080  (r := ?_)
  refine tL_law_2082  (r := ?_)
  refine tL_law_2083  (r := ?_)
  refine tL_law_2084 (hx := (nI_add _ _)) (hj := (by omega)) (hn := hg) (r := ?_)
  refine tL_law_2085  (r := ?_)
  refine tL_law_2086 (hd := (by omega)) (call := C _ _ hj) (k := ?_)
  rintro k1 h1 ⟨⟨vs1, am1⟩, c1⟩
  refine tL_law_2089  (r := ?_)
  refine tL_law_2091  (r := ?_)
  refine tL_law_2092  (r := ?_)
  refine tL_law_2093  (r := ?_)
  refine tL_law_2095  (r := ?_)
  refine tL_law_2096  (r := ?_)
  refine tL_law_2097 (hx := (nI_add _ _)) (hj := (by omega)) (hn := hg) (r := ?_)
  refine tL_law_2098 (hd := (by omega)) (ha := (by first | assumption | (repeat (first | assumption | exact At.set_eq2 (by first | omega | (simp only [hset, hnew]; omega) | rfl | decide) | exact At.new_eq2 _ _ (by first | omega | (simp only [hset, hnew]; omega) | rfl | decide) | refine At.set_ne ?_ (by first | omega | (simp only [hset, hnew]; omega) | rfl | decide) | refine At.new_ne ?_)))) (call := c1) (k := ?_)
  rintro b1 h2 ⟨⟨vs2, am2⟩, hout, hj2⟩
  refine tL_law_2101  (r := ?_)
  refine tL_law_2103  (r := ?_)
  refine tL_law_2104 (hd := (by omega)) (ha := (by first | assumption | (repeat (first | assumption | exact At.set_eq2 (by first | omega | (simp only [hset, hnew]; omega) | rfl | decide) | exact At.new_eq2 _ _ (by first | omega | (simp only [hset, hnew]; omega) | rfl | decide) | refine At.set_ne ?_ (by first | omega | (simp only [hset, hnew]; omega) | rfl | decide) | refine At.new_ne ?_)))) (call := s_thrown (d := d2) am2) (k := ?_)
  rintro v3 h3 ⟨rfl, rfl⟩
  refine tL_law_2107  (r := ?_)
  refine tL_law_2109  (kf := fun c_ => by exfalso; exact c_ rfl) (kt := fun _ => ?_)
  refine tL_law_2114  (r := ?_)
  refine tL_law_2116  (kt := fun c_2116 => ?_) (kf := fun c_2116 => ?_)
  · refine tL_law_2131 (r := ?_)
    exact kn _ _ _ _ _ hj2
  · obtain ⟨f, af, hf⟩ := hout (by simpa using c_2116)
    refine tL_law_2119  (r := ?_)
    refine tL_law_2120  (r := ?_)
    refine tL_law_2121 (ha := (by first | assumption | (repeat (first | assumption | exact At.set_eq2 (by first | omega | (simp only [hset, hnew]; omega) | rfl | decide) | exact At.new_eq2 _ _ (by first | omega | (simp only [hset, hnew]; omega) | rfl | decide) | refine At.set_ne ?_ (by first | omega | (simp only [hset, hnew]; omega) | rfl | decide) | refine At.new_ne ?_)))) (hx := rfl) (hj := (by decide)) (hn := (by decide)) (r := ?_)
    refine tL_law_2122  (r := ?_)
    refine tL_law_2124  (r := ?_)
    refine tL_law_2125  (r := ?_)
    refine tL_law_2126  (kf := fun c_ => by exfalso; exact c_ ((lg_cmp_eq _ _).mpr hf)) (kt := fun _ => ?_)
    refine tL_law_2131 (r := ?_)
    exact kn _ _ _ _ _ hj2

def Kc_meanMargin (G : GT) (d2 x m _out : Nat) (J : Nat → AH → Prop) (n : Nat) : Prop := ∀ (h : AH), J n h → (∃ vs, At h x (.inr (8, vs))) ∧ RQ G mX10_meanMargin d2 0 [some (.ref x), none, none] [] h (Rd fun a h1 => (∃ vs, At h1 m (.inr (10, vs))) ∧ RQ G mX12_meanMargin d2 0 [some (.ref m), none, none] [] h1 (Rd fun b h2 => a = b ∧ J (n + 1) h2))
set_option maxHeartbeats 4000000 in
set_option maxRecDepth 100000 in
theorem lc_37 {d2 x m out i n : Nat} {J : Nat → AH → Prop} {P : OC → AH → Prop} {x5 x6 x7 x8 : Option Value} (hd : d2 + 1 ≤ d) (hg : gN G < 2147483648) (hi : i + 5 < gN G) (C : Kc_meanMargin G d2 x m out J n) (hj : J n h) (kn : ∀ (h2 : AH) (x5 x6 x7 x8 : Option Value), J (n + 1) h2 → RQ G mL_law d 2189 [some (.ref (OLD + 999)), some (.ref x), some (.ref m), some (.ref out), some (.int (nI i)), x5, x6, x7, x8] [] h2 P) : RQ G mL_law d 2134 [some (.ref (OLD + 999)), some (.ref x), some (.ref m), some (.ref out), some (.int (nI i)), x5, x6, x7, x8] [] h P := by
  obtain ⟨⟨vs0, ax0⟩, c0⟩ := C _ hj
  refine tL_law_2134  (r := ?_)
  refine tL_law_2135 (hd := (by omega)) (ha := (by first | assumption | (repeat (first | assumption | exact At.set_eq2 (by first | omega | (simp only [hset, hnew]; omega) | rfl | decide) | exact At.new_eq2 _ _ (by first | omega | (simp only [hset, hnew]; omega) | rfl | decide) | refine At.set_ne ?_ (by first | omega | (simp only [hset, hnew]; omega) | rfl | decide) | refine At.new_ne ?_)))) (call := c0) (k := ?_)
  rintro k1 h1 ⟨⟨vs1, am1⟩, c1⟩
  refine tL_law_2138  (r := ?_)
  refine tL_law_2140  (r := ?_)
  refine tL_law_2141 (hd := (by omega)) (ha := (by first | assumption | (repeat (first | assumption | exact At.set_eq2 (by first | omega | (simp only [hset, hnew]; omega) | rfl | decide) | exact At.new_eq2 _ _ (by first | omega | (simp only [hset, hnew]; omega) | rfl | decide) | refine At.set_ne ?_ (by first | omega | (simp only [hset, hnew]; omega) | rfl | decide) | refine At.new_ne ?_)))) (call := c1) (k := ?_)
  rintro b1 h2 ⟨rfl, hj2⟩
  refine tL_law_2144  (r := ?_)
  refine tL_law_2146  (r := ?_)
  refine tL_law_2148  (r := ?_)
  refine tL_law_2150  (r := ?_)
  refine tL_law_2151  (kt := fun c_2151 => ?_) (kf := fun c_2151 => ?_)
  · refine tL_law_2172 (r := ?_)
    exact kn _ _ _ _ _ hj2
  · refine tL_law_2154  (r := ?_)
    refine tL_law_2156  (r := ?_)
    refine tL_law_2158  (r := ?_)
    refine tL_law_2159  (kt := fun c_ => by exfalso; exact c_2151 c_) (kf := fun _ => ?_)
    refine tL_law_2162  (r := ?_)
    refine tL_law_2164  (r := ?_)
    refine tL_law_2166  (r := ?_)
    refine tL_law_2167  (kf := fun c_ => by exfalso; exact c_2151 c_) (kt := fun _ => ?_)
    refine tL_law_2172 (r := ?_)
    exact kn _ _ _ _ _ hj2

def Kc_digest (G : GT) (d2 x m _out : Nat) (J : Nat → AH → Prop) (n : Nat) : Prop := ∀ (h : AH), J n h → (∃ vs, At h x (.inr (8, vs))) ∧ RQ G mX10_digest d2 0 [some (.ref x), none, none, none] [] h (Rj fun a h1 => (∃ vs, At h1 m (.inr (10, vs))) ∧ RQ G mX12_digest d2 0 [some (.ref m), none, none, none, none, none, none, none, none, none] [] h1 (Rj fun b h2 => a = b ∧ J (n + 1) h2))
set_option maxHeartbeats 4000000 in
set_option maxRecDepth 100000 in
theorem lc_38 {d2 x m out i n : Nat} {J : Nat → AH → Prop} {P : OC → AH → Prop} {x5 x6 x7 x8 : Option Value} (hd : d2 + 1 ≤ d) (hg : gN G < 2147483648) (hi : i + 5 < gN G) (C : Kc_digest G d2 x m out J n) (hj : J n h) (kn : ∀ (h2 : AH) (x5 x6 x7 x8 : Option Value), J (n + 1) h2 → RQ G mL_law d 2189 [some (.ref (OLD + 999)), some (.ref x), some (.ref m), some (.ref out), some (.int (nI i)), x5, x6, x7, x8] [] h2 P) : RQ G mL_law d 2175 [some (.ref (OLD + 999)), some (.ref x), some (.ref m), some (.ref out), some (.int (nI i)), x5, x6, x7, x8] [] h P := by
  obtain ⟨⟨vs0, ax0⟩, c0⟩ := C _ hj
  refine tL_law_2175  (r := ?_)
  refine tL_law_2176 (hd := (by omega)) (ha := (by first | assumption | (repeat (first | assumption | exact At.set_eq2 (by first | omega | (simp only [hset, hnew]; omega) | rfl | decide) | exact At.new_eq2 _ _ (by first | omega | (simp only [hset, hnew]; omega) | rfl | decide) | refine At.set_ne ?_ (by first | omega | (simp only [hset, hnew]; omega) | rfl | decide) | refine At.new_ne ?_)))) (call := c0) (k := ?_)
  rintro k1 h1 ⟨⟨vs1, am1⟩, c1⟩
  refine tL_law_2179  (r := ?_)
  refine tL_law_2180 (hd := (by omega)) (ha := (by first | assumption | (repeat (first | assumption | exact At.set_eq2 (by first | omega | (simp only [hset, hnew]; omega) | rfl | decide) | exact At.new_eq2 _ _ (by first | omega | (simp only [hset, hnew]; omega) | rfl | decide) | refine At.set_ne ?_ (by first | omega | (simp only [hset, hnew]; omega) | rfl | decide) | refine At.new_ne ?_)))) (call := c1) (k := ?_)
  rintro b1 h2 ⟨rfl, hj2⟩
  refine tL_law_2183  (r := ?_)
  refine tL_law_2184  (kf := fun c_ => by exfalso; exact c_ ((lg_cmp_eq _ _).mpr rfl)) (kt := fun _ => ?_)
  exact kn _ _ _ _ _ hj2

/-- all cases -/
def Kc (G : GT) (d2 x m out : Nat) (J : Nat → AH → Prop) (n : Nat) : Prop := (∀ h : AH, J n h → J (n + 1) h) ∧ Kc_feed G d2 x m out J n ∧ Kc_trim G d2 x m out J n ∧ Kc_teach G d2 x m out J n ∧ Kc_errorAt G d2 x m out J n ∧ Kc_labels G d2 x m out J n ∧ Kc_jars G d2 x m out J n ∧ Kc_lids G d2 x m out J n ∧ Kc_days G d2 x m out J n ∧ Kc_alliances G d2 x m out J n ∧ Kc_beansIn G d2 x m out J n ∧ Kc_beansOf G d2 x m out J n ∧ Kc_turnout G d2 x m out J n ∧ Kc_seatsOf G d2 x m out J n ∧ Kc_leaderOf G d2 x m out J n ∧ Kc_areAllied G d2 x m out J n ∧ Kc_firstIn G d2 x m out J n ∧ Kc_marginIn G d2 x m out J n ∧ Kc_allianceBeans G d2 x m out J n ∧ Kc_seatsWon G d2 x m out J n ∧ Kc_emptySeats G d2 x m out J n ∧ Kc_seatsInAll G d2 x m out J n ∧ Kc_leading G d2 x m out J n ∧ Kc_hasMajority G d2 x m out J n ∧ Kc_jarOfLid G d2 x m out J n ∧ Kc_labelOfLid G d2 x m out J n ∧ Kc_ruleOfLid G d2 x m out J n ∧ Kc_pour G d2 x m out J n ∧ Kc_shake G d2 x m out J n ∧ Kc_putLid G d2 x m out J n ∧ Kc_join G d2 x m out J n ∧ Kc_leave G d2 x m out J n ∧ Kc_pass G d2 x m out J n ∧ Kc_seatsAfter G d2 x m out J n ∧ Kc_daysUntilMajority G d2 x m out J n ∧ Kc_beansToWin G d2 x m out J n ∧ Kc_bestJarFor G d2 x m out J n ∧ Kc_firstShaken G d2 x m out J n ∧ Kc_meanMargin G d2 x m out J n ∧ Kc_digest G d2 x m out J n
theorem n63 (v : Int32) : ∃ k : Nat, k < 64 ∧ v &&& nI 63 = nI k := by
  refine ⟨(v &&& nI 63).toInt.toNat, ?_, ?_⟩
  · have h2 : (v &&& nI 63).toBitVec.toNat ≤ 63 := by
      show (v.toBitVec &&& (nI 63).toBitVec).toNat ≤ 63
      rw [BitVec.toNat_and]
      exact Nat.le_trans Nat.and_le_right (by decide)
    have h3 : (v &&& nI 63).toInt = ((v &&& nI 63).toBitVec.toNat : Int) := by
      show (v &&& nI 63).toBitVec.toInt = _
      rw [BitVec.toInt_eq_toNat_of_lt (by omega)]
    omega
  · have h2 : (v &&& nI 63).toBitVec.toNat ≤ 63 := by
      show (v.toBitVec &&& (nI 63).toBitVec).toNat ≤ 63
      rw [BitVec.toNat_and]
      exact Nat.le_trans Nat.and_le_right (by decide)
    have h3 : (v &&& nI 63).toInt = ((v &&& nI 63).toBitVec.toNat : Int) := by
      show (v &&& nI 63).toBitVec.toInt = _
      rw [BitVec.toInt_eq_toNat_of_lt (by omega)]
    apply Int32.toInt_inj.mp
    rw [nI_toInt (by omega)]
    omega

set_option maxHeartbeats 4000000 in
set_option maxRecDepth 100000 in
theorem lc_sw {d2 x m out i n : Nat} {J : Nat → AH → Prop} {P : OC → AH → Prop} {x5 x6 x7 x8 : Option Value} (hd : d2 + 1 ≤ d) (hg : gN G < 2147483648) (hi : i + 5 < gN G) (C : Kc G d2 x m out J n) (hj : J n h) (kn : ∀ (h2 : AH) (x5 x6 x7 x8 : Option Value), J (n + 1) h2 → RQ G mL_law d 2189 [some (.ref (OLD + 999)), some (.ref x), some (.ref m), some (.ref out), some (.int (nI i)), x5, x6, x7, x8] [] h2 P) (v : Int32) : RQ G mL_law d 40 [some (.ref (OLD + 999)), some (.ref x), some (.ref m), some (.ref out), some (.int (nI i)), x5, x6, x7, x8] [.int (v &&& nI 63)] h P := by
  obtain ⟨k, hk, e⟩ := n63 v
  rw [e]
  obtain ⟨C_, C0, C1, C2, C3, C4, C5, C6, C7, C8, C9, C10, C11, C12, C13, C14, C15, C16, C17, C18, C19, C20, C21, C22, C23, C24, C25, C26, C27, C28, C29, C30, C31, C32, C33, C34, C35, C36, C37, C38⟩ := C
  have hz : (nI k).toInt = k := nI_toInt (by omega)
  by_cases e0 : k = 0
  · subst e0
    exact q_tableIn (M := mL_law) (pc := 40) (off := 172) (tgt := 212) dL_law_40 (by rw [hz]; decide) (by rw [hz]; decide) (by rw [hz]; decide) (by decide) (lc_0 hd hg hi C0 hj kn)
  by_cases e1 : k = 1
  · subst e1
    exact q_tableIn (M := mL_law) (pc := 40) (off := 276) (tgt := 316) dL_law_40 (by rw [hz]; decide) (by rw [hz]; decide) (by rw [hz]; decide) (by decide) (lc_1 hd hg hi C1 hj kn)
  by_cases e2 : k = 2
  · subst e2
    exact q_tableIn (M := mL_law) (pc := 40) (off := 332) (tgt := 372) dL_law_40 (by rw [hz]; decide) (by rw [hz]; decide) (by rw [hz]; decide) (by decide) (lc_2 hd hg hi C2 hj kn)
  by_cases e3 : k = 3
  · subst e3
    exact q_tableIn (M := mL_law) (pc := 40) (off := 345) (tgt := 385) dL_law_40 (by rw [hz]; decide) (by rw [hz]; decide) (by rw [hz]; decide) (by decide) (lc_3 hd hg hi C3 hj kn)
  by_cases e4 : k = 4
  · subst e4
    exact q_tableIn (M := mL_law) (pc := 40) (off := 358) (tgt := 398) dL_law_40 (by rw [hz]; decide) (by rw [hz]; decide) (by rw [hz]; decide) (by decide) (lc_4 hd hg hi C4 hj kn)
  by_cases e5 : k = 5
  · subst e5
    exact q_tableIn (M := mL_law) (pc := 40) (off := 371) (tgt := 411) dL_law_40 (by rw [hz]; decide) (by rw [hz]; decide) (by rw [hz]; decide) (by decide) (lc_5 hd hg hi C5 hj kn)
  by_cases e6 : k = 6
  · subst e6
    exact q_tableIn (M := mL_law) (pc := 40) (off := 384) (tgt := 424) dL_law_40 (by rw [hz]; decide) (by rw [hz]; decide) (by rw [hz]; decide) (by decide) (lc_6 hd hg hi C6 hj kn)
  by_cases e7 : k = 7
  · subst e7
    exact q_tableIn (M := mL_law) (pc := 40) (off := 397) (tgt := 437) dL_law_40 (by rw [hz]; decide) (by rw [hz]; decide) (by rw [hz]; decide) (by decide) (lc_7 hd hg hi C7 hj kn)
  by_cases e8 : k = 8
  · subst e8
    exact q_tableIn (M := mL_law) (pc := 40) (off := 410) (tgt := 450) dL_law_40 (by rw [hz]; decide) (by rw [hz]; decide) (by rw [hz]; decide) (by decide) (lc_8 hd hg hi C8 hj kn)
  by_cases e9 : k = 9
  · subst e9
    exact q_tableIn (M := mL_law) (pc := 40) (off := 423) (tgt := 463) dL_law_40 (by rw [hz]; decide) (by rw [hz]; decide) (by rw [hz]; decide) (by decide) (lc_9 hd hg hi C9 hj kn)
  by_cases e10 : k = 10
  · subst e10
    exact q_tableIn (M := mL_law) (pc := 40) (off := 491) (tgt := 531) dL_law_40 (by rw [hz]; decide) (by rw [hz]; decide) (by rw [hz]; decide) (by decide) (lc_10 hd hg hi C10 hj kn)
  by_cases e11 : k = 11
  · subst e11
    exact q_tableIn (M := mL_law) (pc := 40) (off := 547) (tgt := 587) dL_law_40 (by rw [hz]; decide) (by rw [hz]; decide) (by rw [hz]; decide) (by decide) (lc_11 hd hg hi C11 hj kn)
  by_cases e12 : k = 12
  · subst e12
    exact q_tableIn (M := mL_law) (pc := 40) (off := 603) (tgt := 643) dL_law_40 (by rw [hz]; decide) (by rw [hz]; decide) (by rw [hz]; decide) (by decide) (lc_12 hd hg hi C12 hj kn)
  by_cases e13 : k = 13
  · subst e13
    exact q_tableIn (M := mL_law) (pc := 40) (off := 659) (tgt := 699) dL_law_40 (by rw [hz]; decide) (by rw [hz]; decide) (by rw [hz]; decide) (by decide) (lc_13 hd hg hi C13 hj kn)
  by_cases e14 : k = 14
  · subst e14
    exact q_tableIn (M := mL_law) (pc := 40) (off := 715) (tgt := 755) dL_law_40 (by rw [hz]; decide) (by rw [hz]; decide) (by rw [hz]; decide) (by decide) (lc_14 hd hg hi C14 hj kn)
  by_cases e15 : k = 15
  · subst e15
    exact q_tableIn (M := mL_law) (pc := 40) (off := 790) (tgt := 830) dL_law_40 (by rw [hz]; decide) (by rw [hz]; decide) (by rw [hz]; decide) (by decide) (lc_15 hd hg hi C15 hj kn)
  by_cases e16 : k = 16
  · subst e16
    exact q_tableIn (M := mL_law) (pc := 40) (off := 846) (tgt := 886) dL_law_40 (by rw [hz]; decide) (by rw [hz]; decide) (by rw [hz]; decide) (by decide) (lc_16 hd hg hi C16 hj kn)
  by_cases e17 : k = 17
  · subst e17
    exact q_tableIn (M := mL_law) (pc := 40) (off := 902) (tgt := 942) dL_law_40 (by rw [hz]; decide) (by rw [hz]; decide) (by rw [hz]; decide) (by decide) (lc_17 hd hg hi C17 hj kn)
  by_cases e18 : k = 18
  · subst e18
    exact q_tableIn (M := mL_law) (pc := 40) (off := 970) (tgt := 1010) dL_law_40 (by rw [hz]; decide) (by rw [hz]; decide) (by rw [hz]; decide) (by decide) (lc_18 hd hg hi C18 hj kn)
  by_cases e19 : k = 19
  · subst e19
    exact q_tableIn (M := mL_law) (pc := 40) (off := 1038) (tgt := 1078) dL_law_40 (by rw [hz]; decide) (by rw [hz]; decide) (by rw [hz]; decide) (by decide) (lc_19 hd hg hi C19 hj kn)
  by_cases e20 : k = 20
  · subst e20
    exact q_tableIn (M := mL_law) (pc := 40) (off := 1094) (tgt := 1134) dL_law_40 (by rw [hz]; decide) (by rw [hz]; decide) (by rw [hz]; decide) (by decide) (lc_20 hd hg hi C20 hj kn)
  by_cases e21 : k = 21
  · subst e21
    exact q_tableIn (M := mL_law) (pc := 40) (off := 1150) (tgt := 1190) dL_law_40 (by rw [hz]; decide) (by rw [hz]; decide) (by rw [hz]; decide) (by decide) (lc_21 hd hg hi C21 hj kn)
  by_cases e22 : k = 22
  · subst e22
    exact q_tableIn (M := mL_law) (pc := 40) (off := 1163) (tgt := 1203) dL_law_40 (by rw [hz]; decide) (by rw [hz]; decide) (by rw [hz]; decide) (by decide) (lc_22 hd hg hi C22 hj kn)
  by_cases e23 : k = 23
  · subst e23
    exact q_tableIn (M := mL_law) (pc := 40) (off := 1226) (tgt := 1266) dL_law_40 (by rw [hz]; decide) (by rw [hz]; decide) (by rw [hz]; decide) (by decide) (lc_23 hd hg hi C23 hj kn)
  by_cases e24 : k = 24
  · subst e24
    exact q_tableIn (M := mL_law) (pc := 40) (off := 1282) (tgt := 1322) dL_law_40 (by rw [hz]; decide) (by rw [hz]; decide) (by rw [hz]; decide) (by decide) (lc_24 hd hg hi C24 hj kn)
  by_cases e25 : k = 25
  · subst e25
    exact q_tableIn (M := mL_law) (pc := 40) (off := 1338) (tgt := 1378) dL_law_40 (by rw [hz]; decide) (by rw [hz]; decide) (by rw [hz]; decide) (by decide) (lc_25 hd hg hi C25 hj kn)
  by_cases e26 : k = 26
  · subst e26
    exact q_tableIn (M := mL_law) (pc := 40) (off := 1394) (tgt := 1434) dL_law_40 (by rw [hz]; decide) (by rw [hz]; decide) (by rw [hz]; decide) (by decide) (lc_26 hd hg hi C26 hj kn)
  by_cases e27 : k = 27
  · subst e27
    exact q_tableIn (M := mL_law) (pc := 40) (off := 1486) (tgt := 1526) dL_law_40 (by rw [hz]; decide) (by rw [hz]; decide) (by rw [hz]; decide) (by decide) (lc_27 hd hg hi C27 hj kn)
  by_cases e28 : k = 28
  · subst e28
    exact q_tableIn (M := mL_law) (pc := 40) (off := 1542) (tgt := 1582) dL_law_40 (by rw [hz]; decide) (by rw [hz]; decide) (by rw [hz]; decide) (by decide) (lc_28 hd hg hi C28 hj kn)
  by_cases e29 : k = 29
  · subst e29
    exact q_tableIn (M := mL_law) (pc := 40) (off := 1610) (tgt := 1650) dL_law_40 (by rw [hz]; decide) (by rw [hz]; decide) (by rw [hz]; decide) (by decide) (lc_29 hd hg hi C29 hj kn)
  by_cases e30 : k = 30
  · subst e30
    exact q_tableIn (M := mL_law) (pc := 40) (off := 1678) (tgt := 1718) dL_law_40 (by rw [hz]; decide) (by rw [hz]; decide) (by rw [hz]; decide) (by decide) (lc_30 hd hg hi C30 hj kn)
  by_cases e31 : k = 31
  · subst e31
    exact q_tableIn (M := mL_law) (pc := 40) (off := 1734) (tgt := 1774) dL_law_40 (by rw [hz]; decide) (by rw [hz]; decide) (by rw [hz]; decide) (by decide) (lc_31 hd hg hi C31 hj kn)
  by_cases e32 : k = 32
  · subst e32
    exact q_tableIn (M := mL_law) (pc := 40) (off := 1790) (tgt := 1830) dL_law_40 (by rw [hz]; decide) (by rw [hz]; decide) (by rw [hz]; decide) (by decide) (lc_32 hd hg hi C32 hj kn)
  by_cases e33 : k = 33
  · subst e33
    exact q_tableIn (M := mL_law) (pc := 40) (off := 1858) (tgt := 1898) dL_law_40 (by rw [hz]; decide) (by rw [hz]; decide) (by rw [hz]; decide) (by decide) (lc_33 hd hg hi C33 hj kn)
  by_cases e34 : k = 34
  · subst e34
    exact q_tableIn (M := mL_law) (pc := 40) (off := 1914) (tgt := 1954) dL_law_40 (by rw [hz]; decide) (by rw [hz]; decide) (by rw [hz]; decide) (by decide) (lc_34 hd hg hi C34 hj kn)
  by_cases e35 : k = 35
  · subst e35
    exact q_tableIn (M := mL_law) (pc := 40) (off := 1982) (tgt := 2022) dL_law_40 (by rw [hz]; decide) (by rw [hz]; decide) (by rw [hz]; decide) (by decide) (lc_35 hd hg hi C35 hj kn)
  by_cases e36 : k = 36
  · subst e36
    exact q_tableIn (M := mL_law) (pc := 40) (off := 2038) (tgt := 2078) dL_law_40 (by rw [hz]; decide) (by rw [hz]; decide) (by rw [hz]; decide) (by decide) (lc_36 hd hg hi C36 hj kn)
  by_cases e37 : k = 37
  · subst e37
    exact q_tableIn (M := mL_law) (pc := 40) (off := 2094) (tgt := 2134) dL_law_40 (by rw [hz]; decide) (by rw [hz]; decide) (by rw [hz]; decide) (by decide) (lc_37 hd hg hi C37 hj kn)
  by_cases e38 : k = 38
  · subst e38
    exact q_tableIn (M := mL_law) (pc := 40) (off := 2135) (tgt := 2175) dL_law_40 (by rw [hz]; decide) (by rw [hz]; decide) (by rw [hz]; decide) (by decide) (lc_38 hd hg hi C38 hj kn)
  exact q_tableOut (M := mL_law) (pc := 40) (tgt := 2189) dL_law_40 (Or.inr (by rw [hz]; omega)) (by decide) (kn _ _ _ _ _ (C_ _ hj))

set_option maxHeartbeats 4000000 in
set_option maxRecDepth 100000 in
theorem lc_sub (L i : Nat) (hL : L < 2147483648) (hi : i < 2147483648) : (nI L - nI 6 < nI i) ↔ L < i + 6 := by
  rw [Int32.lt_iff_toInt_lt, Int32.toInt_sub, nI_toInt hL, nI_toInt hi, nI_toInt (show 6 < 2147483648 by decide)]
  rw [Int.bmod_eq_of_le (by omega) (by omega)]
  omega

set_option maxHeartbeats 4000000 in
set_option maxRecDepth 100000 in
theorem lc_loop {d2 x m out : Nat} {J : Nat → AH → Prop} (hd : d2 + 1 ≤ d) (hg : gN G < 2147483000) (C : ∀ n, 6 * n + 6 ≤ gN G → Kc G d2 x m out J n) :
    ∀ (q n i : Nat) (h : AH) (x5 x6 x7 x8 : Option Value), gN G < 6 * n + 6 * q + 6 → i = 6 * n → 6 * n ≤ gN G → J n h → RQ G mL_law d 23 [some (.ref (OLD + 999)), some (.ref x), some (.ref m), some (.ref out), some (.int (nI i)), x5, x6, x7, x8] [] h (fun o h2 => o = .inl (some (.int (nI 1))) ∧ ∃ n, 6 * n ≤ gN G ∧ J n h2) := by
  intro q
  induction q with
  | zero =>
    intro n i h x5 x6 x7 x8 hq hi hle hj
    refine tL_law_23  (r := ?_)
    refine tL_law_25  (r := ?_)
    refine tL_law_26  (r := ?_)
    refine tL_law_27  (r := ?_)
    refine tL_law_29  (r := ?_)
    refine tL_law_30  (kf := fun c_ => by exfalso; exact c_ ((lc_sub _ _ (by omega) (by omega)).mpr (by omega))) (kt := fun _ => ?_)
    refine tL_law_2195  (r := ?_)
    refine tL_law_2196 (hb := (Or.inr rfl)) (hP := ?_)
    exact ⟨rfl, n, hle, hj⟩
  | succ q ih =>
    intro n i h x5 x6 x7 x8 hq hi hle hj
    by_cases hlt : gN G < 6 * n + 6
    · clear ih
      refine tL_law_23  (r := ?_)
      refine tL_law_25  (r := ?_)
      refine tL_law_26  (r := ?_)
      refine tL_law_27  (r := ?_)
      refine tL_law_29  (r := ?_)
      refine tL_law_30  (kf := fun c_ => by exfalso; exact c_ ((lc_sub _ _ (by omega) (by omega)).mpr (by omega))) (kt := fun _ => ?_)
      refine tL_law_2195  (r := ?_)
      refine tL_law_2196 (hb := (Or.inr rfl)) (hP := ?_)
      exact ⟨rfl, n, hle, hj⟩
    refine tL_law_23  (r := ?_)
    refine tL_law_25  (r := ?_)
    refine tL_law_26  (r := ?_)
    refine tL_law_27  (r := ?_)
    refine tL_law_29  (r := ?_)
    refine tL_law_30  (kt := fun c_ => by exfalso; exact hlt (by have := (lc_sub _ _ (by omega) (by omega)).mp c_; omega)) (kf := fun _ => ?_)
    refine tL_law_33  (r := ?_)
    refine tL_law_34  (r := ?_)
    refine tL_law_36 (hx := rfl) (hj := (by omega)) (hn := (by omega)) (r := ?_)
    refine tL_law_37  (r := ?_)
    refine tL_law_39  (r := ?_)
    refine lc_sw (n := n) hd (by omega) (by omega) (C n (by omega)) hj (fun h2 y5 y6 y7 y8 hj2 => ?_) _
    refine tL_law_2189 (r := ?_)
    rw [show nI i + nI 6 = nI (6 * (n + 1)) from by rw [nI_add]; congr 1; omega]
    refine tL_law_2192 (r := ?_)
    exact ih (n + 1) (6 * (n + 1)) _ _ _ _ _ (by omega) rfl (by omega) hj2
end LW
