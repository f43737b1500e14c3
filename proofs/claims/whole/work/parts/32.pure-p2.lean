def Ab : Type := Nat × (Nat → Nat) × Nat × (Nat → Nat) × (Nat → Nat → Nat) × (Nat → Nat) × Nat × (Nat → Nat) × (Nat → Nat) × (Nat → Nat) × (Nat → Nat → Nat) × (Nat → Bool) × (Nat → Int) × (Nat → Int) × (Nat → Int) × (Nat → Nat) × (Nat → Nat → Nat) × (Nat → Nat → Nat)
def Ab.sz (a : Ab) : Nat := a.1
def Ab.tx (a : Ab) : Nat → Nat := a.2.1
def Ab.ns (a : Ab) : Nat := a.2.2.1
def Ab.sn (a : Ab) : Nat → Nat := a.2.2.2.1
def Ab.sx (a : Ab) : Nat → Nat → Nat := a.2.2.2.2.1
def Ab.ru (a : Ab) : Nat → Nat := a.2.2.2.2.2.1
def Ab.nl (a : Ab) : Nat := a.2.2.2.2.2.2.1
def Ab.lsh (a : Ab) : Nat → Nat := a.2.2.2.2.2.2.2.1
def Ab.ld (a : Ab) : Nat → Nat := a.2.2.2.2.2.2.2.2.1
def Ab.lm (a : Ab) : Nat → Nat := a.2.2.2.2.2.2.2.2.2.1
def Ab.lg (a : Ab) : Nat → Nat → Nat := a.2.2.2.2.2.2.2.2.2.2.1
def Ab.pd (a : Ab) : Nat → Bool := a.2.2.2.2.2.2.2.2.2.2.2.1
def Ab.px (a : Ab) : Nat → Int := a.2.2.2.2.2.2.2.2.2.2.2.2.1
def Ab.py (a : Ab) : Nat → Int := a.2.2.2.2.2.2.2.2.2.2.2.2.2.1
def Ab.pz (a : Ab) : Nat → Int := a.2.2.2.2.2.2.2.2.2.2.2.2.2.2.1
def Ab.kn (a : Ab) : Nat → Nat := a.2.2.2.2.2.2.2.2.2.2.2.2.2.2.2.1
def Ab.kl (a : Ab) : Nat → Nat → Nat := a.2.2.2.2.2.2.2.2.2.2.2.2.2.2.2.2.1
def Ab.km (a : Ab) : Nat → Nat → Nat := a.2.2.2.2.2.2.2.2.2.2.2.2.2.2.2.2.2
def Ab.mk (u_sz : Nat) (u_tx : Nat → Nat) (u_ns : Nat) (u_sn : Nat → Nat) (u_sx : Nat → Nat → Nat) (u_ru : Nat → Nat) (u_nl : Nat) (u_lsh : Nat → Nat) (u_ld : Nat → Nat) (u_lm : Nat → Nat) (u_lg : Nat → Nat → Nat) (u_pd : Nat → Bool) (u_px : Nat → Int) (u_py : Nat → Int) (u_pz : Nat → Int) (u_kn : Nat → Nat) (u_kl : Nat → Nat → Nat) (u_km : Nat → Nat → Nat) : Ab := (u_sz, u_tx, u_ns, u_sn, u_sx, u_ru, u_nl, u_lsh, u_ld, u_lm, u_lg, u_pd, u_px, u_py, u_pz, u_kn, u_kl, u_km)
theorem Ab_sz {u_sz : Nat} {u_tx : Nat → Nat} {u_ns : Nat} {u_sn : Nat → Nat} {u_sx : Nat → Nat → Nat} {u_ru : Nat → Nat} {u_nl : Nat} {u_lsh : Nat → Nat} {u_ld : Nat → Nat} {u_lm : Nat → Nat} {u_lg : Nat → Nat → Nat} {u_pd : Nat → Bool} {u_px : Nat → Int} {u_py : Nat → Int} {u_pz : Nat → Int} {u_kn : Nat → Nat} {u_kl : Nat → Nat → Nat} {u_km : Nat → Nat → Nat} : (Ab.mk u_sz u_tx u_ns u_sn u_sx u_ru u_nl u_lsh u_ld u_lm u_lg u_pd u_px u_py u_pz u_kn u_kl u_km).sz = u_sz := rfl
theorem Ab_tx {u_sz : Nat} {u_tx : Nat → Nat} {u_ns : Nat} {u_sn : Nat → Nat} {u_sx : Nat → Nat → Nat} {u_ru : Nat → Nat} {u_nl : Nat} {u_lsh : Nat → Nat} {u_ld : Nat → Nat} {u_lm : Nat → Nat} {u_lg : Nat → Nat → Nat} {u_pd : Nat → Bool} {u_px : Nat → Int} {u_py : Nat → Int} {u_pz : Nat → Int} {u_kn : Nat → Nat} {u_kl : Nat → Nat → Nat} {u_km : Nat → Nat → Nat} : (Ab.mk u_sz u_tx u_ns u_sn u_sx u_ru u_nl u_lsh u_ld u_lm u_lg u_pd u_px u_py u_pz u_kn u_kl u_km).tx = u_tx := rfl
theorem Ab_ns {u_sz : Nat} {u_tx : Nat → Nat} {u_ns : Nat} {u_sn : Nat → Nat} {u_sx : Nat → Nat → Nat} {u_ru : Nat → Nat} {u_nl : Nat} {u_lsh : Nat → Nat} {u_ld : Nat → Nat} {u_lm : Nat → Nat} {u_lg : Nat → Nat → Nat} {u_pd : Nat → Bool} {u_px : Nat → Int} {u_py : Nat → Int} {u_pz : Nat → Int} {u_kn : Nat → Nat} {u_kl : Nat → Nat → Nat} {u_km : Nat → Nat → Nat} : (Ab.mk u_sz u_tx u_ns u_sn u_sx u_ru u_nl u_lsh u_ld u_lm u_lg u_pd u_px u_py u_pz u_kn u_kl u_km).ns = u_ns := rfl
theorem Ab_sn {u_sz : Nat} {u_tx : Nat → Nat} {u_ns : Nat} {u_sn : Nat → Nat} {u_sx : Nat → Nat → Nat} {u_ru : Nat → Nat} {u_nl : Nat} {u_lsh : Nat → Nat} {u_ld : Nat → Nat} {u_lm : Nat → Nat} {u_lg : Nat → Nat → Nat} {u_pd : Nat → Bool} {u_px : Nat → Int} {u_py : Nat → Int} {u_pz : Nat → Int} {u_kn : Nat → Nat} {u_kl : Nat → Nat → Nat} {u_km : Nat → Nat → Nat} : (Ab.mk u_sz u_tx u_ns u_sn u_sx u_ru u_nl u_lsh u_ld u_lm u_lg u_pd u_px u_py u_pz u_kn u_kl u_km).sn = u_sn := rfl
theorem Ab_sx {u_sz : Nat} {u_tx : Nat → Nat} {u_ns : Nat} {u_sn : Nat → Nat} {u_sx : Nat → Nat → Nat} {u_ru : Nat → Nat} {u_nl : Nat} {u_lsh : Nat → Nat} {u_ld : Nat → Nat} {u_lm : Nat → Nat} {u_lg : Nat → Nat → Nat} {u_pd : Nat → Bool} {u_px : Nat → Int} {u_py : Nat → Int} {u_pz : Nat → Int} {u_kn : Nat → Nat} {u_kl : Nat → Nat → Nat} {u_km : Nat → Nat → Nat} : (Ab.mk u_sz u_tx u_ns u_sn u_sx u_ru u_nl u_lsh u_ld u_lm u_lg u_pd u_px u_py u_pz u_kn u_kl u_km).sx = u_sx := rfl
theorem Ab_ru {u_sz : Nat} {u_tx : Nat → Nat} {u_ns : Nat} {u_sn : Nat → Nat} {u_sx : Nat → Nat → Nat} {u_ru : Nat → Nat} {u_nl : Nat} {u_lsh : Nat → Nat} {u_ld : Nat → Nat} {u_lm : Nat → Nat} {u_lg : Nat → Nat → Nat} {u_pd : Nat → Bool} {u_px : Nat → Int} {u_py : Nat → Int} {u_pz : Nat → Int} {u_kn : Nat → Nat} {u_kl : Nat → Nat → Nat} {u_km : Nat → Nat → Nat} : (Ab.mk u_sz u_tx u_ns u_sn u_sx u_ru u_nl u_lsh u_ld u_lm u_lg u_pd u_px u_py u_pz u_kn u_kl u_km).ru = u_ru := rfl
theorem Ab_nl {u_sz : Nat} {u_tx : Nat → Nat} {u_ns : Nat} {u_sn : Nat → Nat} {u_sx : Nat → Nat → Nat} {u_ru : Nat → Nat} {u_nl : Nat} {u_lsh : Nat → Nat} {u_ld : Nat → Nat} {u_lm : Nat → Nat} {u_lg : Nat → Nat → Nat} {u_pd : Nat → Bool} {u_px : Nat → Int} {u_py : Nat → Int} {u_pz : Nat → Int} {u_kn : Nat → Nat} {u_kl : Nat → Nat → Nat} {u_km : Nat → Nat → Nat} : (Ab.mk u_sz u_tx u_ns u_sn u_sx u_ru u_nl u_lsh u_ld u_lm u_lg u_pd u_px u_py u_pz u_kn u_kl u_km).nl = u_nl := rfl
theorem Ab_lsh {u_sz : Nat} {u_tx : Nat → Nat} {u_ns : Nat} {u_sn : Nat → Nat} {u_sx : Nat → Nat → Nat} {u_ru : Nat → Nat} {u_nl : Nat} {u_lsh : Nat → Nat} {u_ld : Nat → Nat} {u_lm : Nat → Nat} {u_lg : Nat → Nat → Nat} {u_pd : Nat → Bool} {u_px : Nat → Int} {u_py : Nat → Int} {u_pz : Nat → Int} {u_kn : Nat → Nat} {u_kl : Nat → Nat → Nat} {u_km : Nat → Nat → Nat} : (Ab.mk u_sz u_tx u_ns u_sn u_sx u_ru u_nl u_lsh u_ld u_lm u_lg u_pd u_px u_py u_pz u_kn u_kl u_km).lsh = u_lsh := rfl
theorem Ab_ld {u_sz : Nat} {u_tx : Nat → Nat} {u_ns : Nat} {u_sn : Nat → Nat} {u_sx : Nat → Nat → Nat} {u_ru : Nat → Nat} {u_nl : Nat} {u_lsh : Nat → Nat} {u_ld : Nat → Nat} {u_lm : Nat → Nat} {u_lg : Nat → Nat → Nat} {u_pd : Nat → Bool} {u_px : Nat → Int} {u_py : Nat → Int} {u_pz : Nat → Int} {u_kn : Nat → Nat} {u_kl : Nat → Nat → Nat} {u_km : Nat → Nat → Nat} : (Ab.mk u_sz u_tx u_ns u_sn u_sx u_ru u_nl u_lsh u_ld u_lm u_lg u_pd u_px u_py u_pz u_kn u_kl u_km).ld = u_ld := rfl
theorem Ab_lm {u_sz : Nat} {u_tx : Nat → Nat} {u_ns : Nat} {u_sn : Nat → Nat} {u_sx : Nat → Nat → Nat} {u_ru : Nat → Nat} {u_nl : Nat} {u_lsh : Nat → Nat} {u_ld : Nat → Nat} {u_lm : Nat → Nat} {u_lg : Nat → Nat → Nat} {u_pd : Nat → Bool} {u_px : Nat → Int} {u_py : Nat → Int} {u_pz : Nat → Int} {u_kn : Nat → Nat} {u_kl : Nat → Nat → Nat} {u_km : Nat → Nat → Nat} : (Ab.mk u_sz u_tx u_ns u_sn u_sx u_ru u_nl u_lsh u_ld u_lm u_lg u_pd u_px u_py u_pz u_kn u_kl u_km).lm = u_lm := rfl
theorem Ab_lg {u_sz : Nat} {u_tx : Nat → Nat} {u_ns : Nat} {u_sn : Nat → Nat} {u_sx : Nat → Nat → Nat} {u_ru : Nat → Nat} {u_nl : Nat} {u_lsh : Nat → Nat} {u_ld : Nat → Nat} {u_lm : Nat → Nat} {u_lg : Nat → Nat → Nat} {u_pd : Nat → Bool} {u_px : Nat → Int} {u_py : Nat → Int} {u_pz : Nat → Int} {u_kn : Nat → Nat} {u_kl : Nat → Nat → Nat} {u_km : Nat → Nat → Nat} : (Ab.mk u_sz u_tx u_ns u_sn u_sx u_ru u_nl u_lsh u_ld u_lm u_lg u_pd u_px u_py u_pz u_kn u_kl u_km).lg = u_lg := rfl
theorem Ab_pd {u_sz : Nat} {u_tx : Nat → Nat} {u_ns : Nat} {u_sn : Nat → Nat} {u_sx : Nat → Nat → Nat} {u_ru : Nat → Nat} {u_nl : Nat} {u_lsh : Nat → Nat} {u_ld : Nat → Nat} {u_lm : Nat → Nat} {u_lg : Nat → Nat → Nat} {u_pd : Nat → Bool} {u_px : Nat → Int} {u_py : Nat → Int} {u_pz : Nat → Int} {u_kn : Nat → Nat} {u_kl : Nat → Nat → Nat} {u_km : Nat → Nat → Nat} : (Ab.mk u_sz u_tx u_ns u_sn u_sx u_ru u_nl u_lsh u_ld u_lm u_lg u_pd u_px u_py u_pz u_kn u_kl u_km).pd = u_pd := rfl
theorem Ab_px {u_sz : Nat} {u_tx : Nat → Nat} {u_ns : Nat} {u_sn : Nat → Nat} {u_sx : Nat → Nat → Nat} {u_ru : Nat → Nat} {u_nl : Nat} {u_lsh : Nat → Nat} {u_ld : Nat → Nat} {u_lm : Nat → Nat} {u_lg : Nat → Nat → Nat} {u_pd : Nat → Bool} {u_px : Nat → Int} {u_py : Nat → Int} {u_pz : Nat → Int} {u_kn : Nat → Nat} {u_kl : Nat → Nat → Nat} {u_km : Nat → Nat → Nat} : (Ab.mk u_sz u_tx u_ns u_sn u_sx u_ru u_nl u_lsh u_ld u_lm u_lg u_pd u_px u_py u_pz u_kn u_kl u_km).px = u_px := rfl
theorem Ab_py {u_sz : Nat} {u_tx : Nat → Nat} {u_ns : Nat} {u_sn : Nat → Nat} {u_sx : Nat → Nat → Nat} {u_ru : Nat → Nat} {u_nl : Nat} {u_lsh : Nat → Nat} {u_ld : Nat → Nat} {u_lm : Nat → Nat} {u_lg : Nat → Nat → Nat} {u_pd : Nat → Bool} {u_px : Nat → Int} {u_py : Nat → Int} {u_pz : Nat → Int} {u_kn : Nat → Nat} {u_kl : Nat → Nat → Nat} {u_km : Nat → Nat → Nat} : (Ab.mk u_sz u_tx u_ns u_sn u_sx u_ru u_nl u_lsh u_ld u_lm u_lg u_pd u_px u_py u_pz u_kn u_kl u_km).py = u_py := rfl
theorem Ab_pz {u_sz : Nat} {u_tx : Nat → Nat} {u_ns : Nat} {u_sn : Nat → Nat} {u_sx : Nat → Nat → Nat} {u_ru : Nat → Nat} {u_nl : Nat} {u_lsh : Nat → Nat} {u_ld : Nat → Nat} {u_lm : Nat → Nat} {u_lg : Nat → Nat → Nat} {u_pd : Nat → Bool} {u_px : Nat → Int} {u_py : Nat → Int} {u_pz : Nat → Int} {u_kn : Nat → Nat} {u_kl : Nat → Nat → Nat} {u_km : Nat → Nat → Nat} : (Ab.mk u_sz u_tx u_ns u_sn u_sx u_ru u_nl u_lsh u_ld u_lm u_lg u_pd u_px u_py u_pz u_kn u_kl u_km).pz = u_pz := rfl
theorem Ab_kn {u_sz : Nat} {u_tx : Nat → Nat} {u_ns : Nat} {u_sn : Nat → Nat} {u_sx : Nat → Nat → Nat} {u_ru : Nat → Nat} {u_nl : Nat} {u_lsh : Nat → Nat} {u_ld : Nat → Nat} {u_lm : Nat → Nat} {u_lg : Nat → Nat → Nat} {u_pd : Nat → Bool} {u_px : Nat → Int} {u_py : Nat → Int} {u_pz : Nat → Int} {u_kn : Nat → Nat} {u_kl : Nat → Nat → Nat} {u_km : Nat → Nat → Nat} : (Ab.mk u_sz u_tx u_ns u_sn u_sx u_ru u_nl u_lsh u_ld u_lm u_lg u_pd u_px u_py u_pz u_kn u_kl u_km).kn = u_kn := rfl
theorem Ab_kl {u_sz : Nat} {u_tx : Nat → Nat} {u_ns : Nat} {u_sn : Nat → Nat} {u_sx : Nat → Nat → Nat} {u_ru : Nat → Nat} {u_nl : Nat} {u_lsh : Nat → Nat} {u_ld : Nat → Nat} {u_lm : Nat → Nat} {u_lg : Nat → Nat → Nat} {u_pd : Nat → Bool} {u_px : Nat → Int} {u_py : Nat → Int} {u_pz : Nat → Int} {u_kn : Nat → Nat} {u_kl : Nat → Nat → Nat} {u_km : Nat → Nat → Nat} : (Ab.mk u_sz u_tx u_ns u_sn u_sx u_ru u_nl u_lsh u_ld u_lm u_lg u_pd u_px u_py u_pz u_kn u_kl u_km).kl = u_kl := rfl
theorem Ab_km {u_sz : Nat} {u_tx : Nat → Nat} {u_ns : Nat} {u_sn : Nat → Nat} {u_sx : Nat → Nat → Nat} {u_ru : Nat → Nat} {u_nl : Nat} {u_lsh : Nat → Nat} {u_ld : Nat → Nat} {u_lm : Nat → Nat} {u_lg : Nat → Nat → Nat} {u_pd : Nat → Bool} {u_px : Nat → Int} {u_py : Nat → Int} {u_pz : Nat → Int} {u_kn : Nat → Nat} {u_kl : Nat → Nat → Nat} {u_km : Nat → Nat → Nat} : (Ab.mk u_sz u_tx u_ns u_sn u_sx u_ru u_nl u_lsh u_ld u_lm u_lg u_pd u_px u_py u_pz u_kn u_kl u_km).km = u_km := rfl
def isBend (c : Nat) : Prop := c = 76 ∨ c = 82 ∨ c = 85
def bendC (c : Nat) : Nat := if c = 76 then 1 else if c = 82 then 2 else if c = 85 then 3 else 0
def qv (c : Nat) : Nat := if c = 76 then 1 else if c = 82 then 1 else if c = 85 then 2 else 0
def qsum (x : Nat → Nat) : Nat → Nat
  | 0 => 0
  | k + 1 => qsum x k + qv (x (2 * k + 1))
def Ok (a : Ab) : Prop := (a.sz ≤ 40) ∧ (∀ k, k < a.sz → 32 ≤ a.tx k ∧ a.tx k ≤ 126) ∧ (a.ns ≤ 10) ∧ (∀ j, j < a.ns → a.sn j % 2 = 1 ∧ a.sn j ≤ 11) ∧ (∀ j, j < a.ns → ∀ k, 2 * k < a.sn j → a.sx j (2 * k) = 65 + k) ∧ (∀ j, j < a.ns → ∀ k, 2 * k + 1 < a.sn j → isBend (a.sx j (2 * k + 1))) ∧ (∀ d, a.ru d ≤ 500) ∧ (a.nl ≤ 12) ∧ (∀ i, i < a.nl → a.lsh i < a.ns) ∧ (∀ i, i < a.nl → 4 ≤ a.ld i ∧ a.ld i ≤ 40) ∧ (∀ i, i < a.nl → 1 ≤ a.lm i ∧ a.lm i ≤ 5) ∧ (∀ i, i < a.nl → ∀ k, k < 6 → a.lg i k ≤ 20000) ∧ (∀ i, i < a.nl → ∀ k, k < 6 → (a.sn (a.lsh i) + 1) / 2 ≤ k → a.lg i k = 0) ∧ (∀ i, i < a.nl → -100000 ≤ a.px i ∧ a.px i ≤ 100000) ∧ (∀ i, i < a.nl → -100000 ≤ a.py i ∧ a.py i ≤ 100000) ∧ (∀ i, i < a.nl → -100000 ≤ a.pz i ∧ a.pz i ≤ 100000) ∧ (∀ d, a.kn d ≤ 3) ∧ (∀ d k, k < a.kn d → 1 ≤ a.kl d k ∧ a.kl d k ≤ 30000) ∧ (∀ d k, k < a.kn d → a.km d k ≤ 20)
theorem Ok.sz {a : Ab} (h9 : Ok a) : a.sz ≤ 40 := h9.1
theorem Ok.tx {a : Ab} (h9 : Ok a) : ∀ k, k < a.sz → 32 ≤ a.tx k ∧ a.tx k ≤ 126 := h9.2.1
theorem Ok.ns {a : Ab} (h9 : Ok a) : a.ns ≤ 10 := h9.2.2.1
theorem Ok.sn {a : Ab} (h9 : Ok a) : ∀ j, j < a.ns → a.sn j % 2 = 1 ∧ a.sn j ≤ 11 := h9.2.2.2.1
theorem Ok.sxe {a : Ab} (h9 : Ok a) : ∀ j, j < a.ns → ∀ k, 2 * k < a.sn j → a.sx j (2 * k) = 65 + k := h9.2.2.2.2.1
theorem Ok.sxo {a : Ab} (h9 : Ok a) : ∀ j, j < a.ns → ∀ k, 2 * k + 1 < a.sn j → isBend (a.sx j (2 * k + 1)) := h9.2.2.2.2.2.1
theorem Ok.ru {a : Ab} (h9 : Ok a) : ∀ d, a.ru d ≤ 500 := h9.2.2.2.2.2.2.1
theorem Ok.nl {a : Ab} (h9 : Ok a) : a.nl ≤ 12 := h9.2.2.2.2.2.2.2.1
theorem Ok.lsh {a : Ab} (h9 : Ok a) : ∀ i, i < a.nl → a.lsh i < a.ns := h9.2.2.2.2.2.2.2.2.1
theorem Ok.ld {a : Ab} (h9 : Ok a) : ∀ i, i < a.nl → 4 ≤ a.ld i ∧ a.ld i ≤ 40 := h9.2.2.2.2.2.2.2.2.2.1
theorem Ok.lm {a : Ab} (h9 : Ok a) : ∀ i, i < a.nl → 1 ≤ a.lm i ∧ a.lm i ≤ 5 := h9.2.2.2.2.2.2.2.2.2.2.1
theorem Ok.lg {a : Ab} (h9 : Ok a) : ∀ i, i < a.nl → ∀ k, k < 6 → a.lg i k ≤ 20000 := h9.2.2.2.2.2.2.2.2.2.2.2.1
theorem Ok.lz {a : Ab} (h9 : Ok a) : ∀ i, i < a.nl → ∀ k, k < 6 → (a.sn (a.lsh i) + 1) / 2 ≤ k → a.lg i k = 0 := h9.2.2.2.2.2.2.2.2.2.2.2.2.1
theorem Ok.px {a : Ab} (h9 : Ok a) : ∀ i, i < a.nl → -100000 ≤ a.px i ∧ a.px i ≤ 100000 := h9.2.2.2.2.2.2.2.2.2.2.2.2.2.1
theorem Ok.py {a : Ab} (h9 : Ok a) : ∀ i, i < a.nl → -100000 ≤ a.py i ∧ a.py i ≤ 100000 := h9.2.2.2.2.2.2.2.2.2.2.2.2.2.2.1
theorem Ok.pz {a : Ab} (h9 : Ok a) : ∀ i, i < a.nl → -100000 ≤ a.pz i ∧ a.pz i ≤ 100000 := h9.2.2.2.2.2.2.2.2.2.2.2.2.2.2.2.1
theorem Ok.kn {a : Ab} (h9 : Ok a) : ∀ d, a.kn d ≤ 3 := h9.2.2.2.2.2.2.2.2.2.2.2.2.2.2.2.2.1
theorem Ok.kl {a : Ab} (h9 : Ok a) : ∀ d k, k < a.kn d → 1 ≤ a.kl d k ∧ a.kl d k ≤ 30000 := h9.2.2.2.2.2.2.2.2.2.2.2.2.2.2.2.2.2.1
theorem Ok.km {a : Ab} (h9 : Ok a) : ∀ d k, k < a.kn d → a.km d k ≤ 20 := h9.2.2.2.2.2.2.2.2.2.2.2.2.2.2.2.2.2.2
theorem Ok.mk {a : Ab} (u_sz : a.sz ≤ 40) (u_tx : ∀ k, k < a.sz → 32 ≤ a.tx k ∧ a.tx k ≤ 126) (u_ns : a.ns ≤ 10) (u_sn : ∀ j, j < a.ns → a.sn j % 2 = 1 ∧ a.sn j ≤ 11) (u_sxe : ∀ j, j < a.ns → ∀ k, 2 * k < a.sn j → a.sx j (2 * k) = 65 + k) (u_sxo : ∀ j, j < a.ns → ∀ k, 2 * k + 1 < a.sn j → isBend (a.sx j (2 * k + 1))) (u_ru : ∀ d, a.ru d ≤ 500) (u_nl : a.nl ≤ 12) (u_lsh : ∀ i, i < a.nl → a.lsh i < a.ns) (u_ld : ∀ i, i < a.nl → 4 ≤ a.ld i ∧ a.ld i ≤ 40) (u_lm : ∀ i, i < a.nl → 1 ≤ a.lm i ∧ a.lm i ≤ 5) (u_lg : ∀ i, i < a.nl → ∀ k, k < 6 → a.lg i k ≤ 20000) (u_lz : ∀ i, i < a.nl → ∀ k, k < 6 → (a.sn (a.lsh i) + 1) / 2 ≤ k → a.lg i k = 0) (u_px : ∀ i, i < a.nl → -100000 ≤ a.px i ∧ a.px i ≤ 100000) (u_py : ∀ i, i < a.nl → -100000 ≤ a.py i ∧ a.py i ≤ 100000) (u_pz : ∀ i, i < a.nl → -100000 ≤ a.pz i ∧ a.pz i ≤ 100000) (u_kn : ∀ d, a.kn d ≤ 3) (u_kl : ∀ d k, k < a.kn d → 1 ≤ a.kl d k ∧ a.kl d k ≤ 30000) (u_km : ∀ d k, k < a.kn d → a.km d k ≤ 20) : Ok a := ⟨u_sz, u_tx, u_ns, u_sn, u_sxe, u_sxo, u_ru, u_nl, u_lsh, u_ld, u_lm, u_lg, u_lz, u_px, u_py, u_pz, u_kn, u_kl, u_km⟩
def b01 (b : Bool) : Int := if b then 1 else 0
def RS (n : Nat) (x : Nat → Nat) (S : MS) : Prop := (S.1 0 = jI ((n + 1) / 2 : Nat)) ∧ (S.1 1 = jI (qsum x ((n - 1) / 2) : Nat)) ∧ (∀ k, k < n → S.2.1 0 k = jI (x k))
theorem RS.legs {n : Nat} {x : Nat → Nat} {S : MS} (h9 : RS n x S) : S.1 0 = jI ((n + 1) / 2 : Nat) := h9.1
theorem RS.qu {n : Nat} {x : Nat → Nat} {S : MS} (h9 : RS n x S) : S.1 1 = jI (qsum x ((n - 1) / 2) : Nat) := h9.2.1
theorem RS.tx {n : Nat} {x : Nat → Nat} {S : MS} (h9 : RS n x S) : ∀ k, k < n → S.2.1 0 k = jI (x k) := h9.2.2
theorem RS.mk {n : Nat} {x : Nat → Nat} {S : MS} (u_legs : S.1 0 = jI ((n + 1) / 2 : Nat)) (u_qu : S.1 1 = jI (qsum x ((n - 1) / 2) : Nat)) (u_tx : ∀ k, k < n → S.2.1 0 k = jI (x k)) : RS n x S := ⟨u_legs, u_qu, u_tx⟩
def RLn (a : Ab) (i : Nat) (S : MS) : Prop := (S.1 0 = jI (a.lsh i)) ∧ (S.1 1 = jI (a.ld i)) ∧ (S.1 2 = jI (a.lm i)) ∧ (S.1 3 = jI (b01 (a.pd i))) ∧ (S.1 4 = jI (a.px i)) ∧ (S.1 5 = jI (a.py i)) ∧ (S.1 6 = jI (a.pz i)) ∧ (∀ k, k < 6 → S.2.1 0 k = jI (a.lg i k))
theorem RLn.sh {a : Ab} {i : Nat} {S : MS} (h9 : RLn a i S) : S.1 0 = jI (a.lsh i) := h9.1
theorem RLn.di {a : Ab} {i : Nat} {S : MS} (h9 : RLn a i S) : S.1 1 = jI (a.ld i) := h9.2.1
theorem RLn.ma {a : Ab} {i : Nat} {S : MS} (h9 : RLn a i S) : S.1 2 = jI (a.lm i) := h9.2.2.1
theorem RLn.pd {a : Ab} {i : Nat} {S : MS} (h9 : RLn a i S) : S.1 3 = jI (b01 (a.pd i)) := h9.2.2.2.1
theorem RLn.px {a : Ab} {i : Nat} {S : MS} (h9 : RLn a i S) : S.1 4 = jI (a.px i) := h9.2.2.2.2.1
theorem RLn.py {a : Ab} {i : Nat} {S : MS} (h9 : RLn a i S) : S.1 5 = jI (a.py i) := h9.2.2.2.2.2.1
theorem RLn.pz {a : Ab} {i : Nat} {S : MS} (h9 : RLn a i S) : S.1 6 = jI (a.pz i) := h9.2.2.2.2.2.2.1
theorem RLn.lg {a : Ab} {i : Nat} {S : MS} (h9 : RLn a i S) : ∀ k, k < 6 → S.2.1 0 k = jI (a.lg i k) := h9.2.2.2.2.2.2.2
theorem RLn.mk {a : Ab} {i : Nat} {S : MS} (u_sh : S.1 0 = jI (a.lsh i)) (u_di : S.1 1 = jI (a.ld i)) (u_ma : S.1 2 = jI (a.lm i)) (u_pd : S.1 3 = jI (b01 (a.pd i))) (u_px : S.1 4 = jI (a.px i)) (u_py : S.1 5 = jI (a.py i)) (u_pz : S.1 6 = jI (a.pz i)) (u_lg : ∀ k, k < 6 → S.2.1 0 k = jI (a.lg i k)) : RLn a i S := ⟨u_sh, u_di, u_ma, u_pd, u_px, u_py, u_pz, u_lg⟩
def RF (a : Ab) (d : Nat) (S : MS) : Prop := (S.1 0 = jI (a.kn d)) ∧ (∀ k, k < a.kn d → S.2.1 0 k = jI (a.kl d k)) ∧ (∀ k, k < a.kn d → S.2.1 1 k = jI (a.km d k))
theorem RF.kn {a : Ab} {d : Nat} {S : MS} (h9 : RF a d S) : S.1 0 = jI (a.kn d) := h9.1
theorem RF.kl {a : Ab} {d : Nat} {S : MS} (h9 : RF a d S) : ∀ k, k < a.kn d → S.2.1 0 k = jI (a.kl d k) := h9.2.1
theorem RF.km {a : Ab} {d : Nat} {S : MS} (h9 : RF a d S) : ∀ k, k < a.kn d → S.2.1 1 k = jI (a.km d k) := h9.2.2
theorem RF.mk {a : Ab} {d : Nat} {S : MS} (u_kn : S.1 0 = jI (a.kn d)) (u_kl : ∀ k, k < a.kn d → S.2.1 0 k = jI (a.kl d k)) (u_km : ∀ k, k < a.kn d → S.2.1 1 k = jI (a.km d k)) : RF a d S := ⟨u_kn, u_kl, u_km⟩
def RC (a : Ab) (nl : Nat) (nT : Nat → Nat) (LS TS : Nat → MS) (FP : Nat → Bool) (FS : Nat → MS) (bc sg : MS) : Prop := (nl = a.nl) ∧ (bc.1 0 = jI a.ns) ∧ (bc.1 1 = jI a.nl) ∧ (∀ d, d < 37 → bc.2.1 0 d = jI (a.ru (d + 4))) ∧ (sg.1 0 = jI a.sz) ∧ (∀ k, k < a.sz → sg.2.1 0 k = jI (a.tx k)) ∧ (∀ i, i < a.nl → nT i = a.sn (a.lsh i)) ∧ (∀ i, i < a.nl → RS (a.sn (a.lsh i)) (a.sx (a.lsh i)) (TS i)) ∧ (∀ i, i < a.nl → RLn a i (LS i)) ∧ (∀ d, d < 37 → FP d = true → RF a (d + 4) (FS d)) ∧ (∀ d, d < 37 → FP d = false → a.kn (d + 4) = 0)
theorem RC.nl {a : Ab} {nl : Nat} {nT : Nat → Nat} {LS TS : Nat → MS} {FP : Nat → Bool} {FS : Nat → MS} {bc sg : MS} (h9 : RC a nl nT LS TS FP FS bc sg) : nl = a.nl := h9.1
theorem RC.c0 {a : Ab} {nl : Nat} {nT : Nat → Nat} {LS TS : Nat → MS} {FP : Nat → Bool} {FS : Nat → MS} {bc sg : MS} (h9 : RC a nl nT LS TS FP FS bc sg) : bc.1 0 = jI a.ns := h9.2.1
theorem RC.c1 {a : Ab} {nl : Nat} {nT : Nat → Nat} {LS TS : Nat → MS} {FP : Nat → Bool} {FS : Nat → MS} {bc sg : MS} (h9 : RC a nl nT LS TS FP FS bc sg) : bc.1 1 = jI a.nl := h9.2.2.1
theorem RC.ru {a : Ab} {nl : Nat} {nT : Nat → Nat} {LS TS : Nat → MS} {FP : Nat → Bool} {FS : Nat → MS} {bc sg : MS} (h9 : RC a nl nT LS TS FP FS bc sg) : ∀ d, d < 37 → bc.2.1 0 d = jI (a.ru (d + 4)) := h9.2.2.2.1
theorem RC.s0 {a : Ab} {nl : Nat} {nT : Nat → Nat} {LS TS : Nat → MS} {FP : Nat → Bool} {FS : Nat → MS} {bc sg : MS} (h9 : RC a nl nT LS TS FP FS bc sg) : sg.1 0 = jI a.sz := h9.2.2.2.2.1
theorem RC.st {a : Ab} {nl : Nat} {nT : Nat → Nat} {LS TS : Nat → MS} {FP : Nat → Bool} {FS : Nat → MS} {bc sg : MS} (h9 : RC a nl nT LS TS FP FS bc sg) : ∀ k, k < a.sz → sg.2.1 0 k = jI (a.tx k) := h9.2.2.2.2.2.1
theorem RC.nT {a : Ab} {nl : Nat} {nT : Nat → Nat} {LS TS : Nat → MS} {FP : Nat → Bool} {FS : Nat → MS} {bc sg : MS} (h9 : RC a nl nT LS TS FP FS bc sg) : ∀ i, i < a.nl → nT i = a.sn (a.lsh i) := h9.2.2.2.2.2.2.1
theorem RC.ts {a : Ab} {nl : Nat} {nT : Nat → Nat} {LS TS : Nat → MS} {FP : Nat → Bool} {FS : Nat → MS} {bc sg : MS} (h9 : RC a nl nT LS TS FP FS bc sg) : ∀ i, i < a.nl → RS (a.sn (a.lsh i)) (a.sx (a.lsh i)) (TS i) := h9.2.2.2.2.2.2.2.1
theorem RC.ls {a : Ab} {nl : Nat} {nT : Nat → Nat} {LS TS : Nat → MS} {FP : Nat → Bool} {FS : Nat → MS} {bc sg : MS} (h9 : RC a nl nT LS TS FP FS bc sg) : ∀ i, i < a.nl → RLn a i (LS i) := h9.2.2.2.2.2.2.2.2.1
theorem RC.fs {a : Ab} {nl : Nat} {nT : Nat → Nat} {LS TS : Nat → MS} {FP : Nat → Bool} {FS : Nat → MS} {bc sg : MS} (h9 : RC a nl nT LS TS FP FS bc sg) : ∀ d, d < 37 → FP d = true → RF a (d + 4) (FS d) := h9.2.2.2.2.2.2.2.2.2.1
theorem RC.fn {a : Ab} {nl : Nat} {nT : Nat → Nat} {LS TS : Nat → MS} {FP : Nat → Bool} {FS : Nat → MS} {bc sg : MS} (h9 : RC a nl nT LS TS FP FS bc sg) : ∀ d, d < 37 → FP d = false → a.kn (d + 4) = 0 := h9.2.2.2.2.2.2.2.2.2.2
theorem RC.mk {a : Ab} {nl : Nat} {nT : Nat → Nat} {LS TS : Nat → MS} {FP : Nat → Bool} {FS : Nat → MS} {bc sg : MS} (u_nl : nl = a.nl) (u_c0 : bc.1 0 = jI a.ns) (u_c1 : bc.1 1 = jI a.nl) (u_ru : ∀ d, d < 37 → bc.2.1 0 d = jI (a.ru (d + 4))) (u_s0 : sg.1 0 = jI a.sz) (u_st : ∀ k, k < a.sz → sg.2.1 0 k = jI (a.tx k)) (u_nT : ∀ i, i < a.nl → nT i = a.sn (a.lsh i)) (u_ts : ∀ i, i < a.nl → RS (a.sn (a.lsh i)) (a.sx (a.lsh i)) (TS i)) (u_ls : ∀ i, i < a.nl → RLn a i (LS i)) (u_fs : ∀ d, d < 37 → FP d = true → RF a (d + 4) (FS d)) (u_fn : ∀ d, d < 37 → FP d = false → a.kn (d + 4) = 0) : RC a nl nT LS TS FP FS bc sg := ⟨u_nl, u_c0, u_c1, u_ru, u_s0, u_st, u_nT, u_ts, u_ls, u_fs, u_fn⟩
def RM (a : Ab) (md : MS) : Prop := (md.1 0 = jI a.sz) ∧ (md.1 1 = jI a.ns) ∧ (md.1 2 = jI a.nl) ∧ (∀ k, k < a.sz → md.2.1 0 k = jI (a.tx k)) ∧ (∀ j, j < a.ns → md.2.1 1 j = jI ((a.sn j + 1) / 2 : Nat)) ∧ (∀ j, j < a.ns → ∀ k, 2 * k + 1 < a.sn j → md.2.1 2 (6 * j + k) = jI (bendC (a.sx j (2 * k + 1)))) ∧ (∀ i, i < a.nl → md.2.1 3 i = jI (a.lsh i)) ∧ (∀ i, i < a.nl → md.2.1 4 i = jI (a.ld i)) ∧ (∀ i, i < a.nl → md.2.1 5 i = jI (a.lm i)) ∧ (∀ i, i < 12 → md.2.1 6 i = jI (b01 (if i < a.nl then a.pd i else false))) ∧ (∀ d, d < 41 → md.2.1 7 d = jI (a.kn d)) ∧ (∀ d, d < 41 → ∀ k, k < a.kn d → md.2.1 8 (3 * d + k) = jI (a.km d k)) ∧ (∀ d, d < 41 → md.2.2 0 d = jL (a.ru d)) ∧ (∀ i, i < 12 → ∀ k, k < 6 → md.2.2 1 (6 * i + k) = jL (if i < a.nl then a.lg i k else 0 : Nat)) ∧ (∀ i, i < 12 → md.2.2 2 i = jL (if i < a.nl then a.px i else 0)) ∧ (∀ i, i < 12 → md.2.2 3 i = jL (if i < a.nl then a.py i else 0)) ∧ (∀ i, i < 12 → md.2.2 4 i = jL (if i < a.nl then a.pz i else 0)) ∧ (∀ d, d < 41 → ∀ k, k < a.kn d → md.2.2 5 (3 * d + k) = jL (a.kl d k))
theorem RM.s0 {a : Ab} {md : MS} (h9 : RM a md) : md.1 0 = jI a.sz := h9.1
theorem RM.s1 {a : Ab} {md : MS} (h9 : RM a md) : md.1 1 = jI a.ns := h9.2.1
theorem RM.s2 {a : Ab} {md : MS} (h9 : RM a md) : md.1 2 = jI a.nl := h9.2.2.1
theorem RM.tx {a : Ab} {md : MS} (h9 : RM a md) : ∀ k, k < a.sz → md.2.1 0 k = jI (a.tx k) := h9.2.2.2.1
theorem RM.lc {a : Ab} {md : MS} (h9 : RM a md) : ∀ j, j < a.ns → md.2.1 1 j = jI ((a.sn j + 1) / 2 : Nat) := h9.2.2.2.2.1
theorem RM.bn {a : Ab} {md : MS} (h9 : RM a md) : ∀ j, j < a.ns → ∀ k, 2 * k + 1 < a.sn j → md.2.1 2 (6 * j + k) = jI (bendC (a.sx j (2 * k + 1))) := h9.2.2.2.2.2.1
theorem RM.sh {a : Ab} {md : MS} (h9 : RM a md) : ∀ i, i < a.nl → md.2.1 3 i = jI (a.lsh i) := h9.2.2.2.2.2.2.1
theorem RM.di {a : Ab} {md : MS} (h9 : RM a md) : ∀ i, i < a.nl → md.2.1 4 i = jI (a.ld i) := h9.2.2.2.2.2.2.2.1
theorem RM.ma {a : Ab} {md : MS} (h9 : RM a md) : ∀ i, i < a.nl → md.2.1 5 i = jI (a.lm i) := h9.2.2.2.2.2.2.2.2.1
theorem RM.pd {a : Ab} {md : MS} (h9 : RM a md) : ∀ i, i < 12 → md.2.1 6 i = jI (b01 (if i < a.nl then a.pd i else false)) := h9.2.2.2.2.2.2.2.2.2.1
theorem RM.kn {a : Ab} {md : MS} (h9 : RM a md) : ∀ d, d < 41 → md.2.1 7 d = jI (a.kn d) := h9.2.2.2.2.2.2.2.2.2.2.1
theorem RM.km {a : Ab} {md : MS} (h9 : RM a md) : ∀ d, d < 41 → ∀ k, k < a.kn d → md.2.1 8 (3 * d + k) = jI (a.km d k) := h9.2.2.2.2.2.2.2.2.2.2.2.1
theorem RM.ru {a : Ab} {md : MS} (h9 : RM a md) : ∀ d, d < 41 → md.2.2 0 d = jL (a.ru d) := h9.2.2.2.2.2.2.2.2.2.2.2.2.1
theorem RM.lg {a : Ab} {md : MS} (h9 : RM a md) : ∀ i, i < 12 → ∀ k, k < 6 → md.2.2 1 (6 * i + k) = jL (if i < a.nl then a.lg i k else 0 : Nat) := h9.2.2.2.2.2.2.2.2.2.2.2.2.2.1
theorem RM.px {a : Ab} {md : MS} (h9 : RM a md) : ∀ i, i < 12 → md.2.2 2 i = jL (if i < a.nl then a.px i else 0) := h9.2.2.2.2.2.2.2.2.2.2.2.2.2.2.1
theorem RM.py {a : Ab} {md : MS} (h9 : RM a md) : ∀ i, i < 12 → md.2.2 3 i = jL (if i < a.nl then a.py i else 0) := h9.2.2.2.2.2.2.2.2.2.2.2.2.2.2.2.1
theorem RM.pz {a : Ab} {md : MS} (h9 : RM a md) : ∀ i, i < 12 → md.2.2 4 i = jL (if i < a.nl then a.pz i else 0) := h9.2.2.2.2.2.2.2.2.2.2.2.2.2.2.2.2.1
theorem RM.kl {a : Ab} {md : MS} (h9 : RM a md) : ∀ d, d < 41 → ∀ k, k < a.kn d → md.2.2 5 (3 * d + k) = jL (a.kl d k) := h9.2.2.2.2.2.2.2.2.2.2.2.2.2.2.2.2.2
theorem RM.mk {a : Ab} {md : MS} (u_s0 : md.1 0 = jI a.sz) (u_s1 : md.1 1 = jI a.ns) (u_s2 : md.1 2 = jI a.nl) (u_tx : ∀ k, k < a.sz → md.2.1 0 k = jI (a.tx k)) (u_lc : ∀ j, j < a.ns → md.2.1 1 j = jI ((a.sn j + 1) / 2 : Nat)) (u_bn : ∀ j, j < a.ns → ∀ k, 2 * k + 1 < a.sn j → md.2.1 2 (6 * j + k) = jI (bendC (a.sx j (2 * k + 1)))) (u_sh : ∀ i, i < a.nl → md.2.1 3 i = jI (a.lsh i)) (u_di : ∀ i, i < a.nl → md.2.1 4 i = jI (a.ld i)) (u_ma : ∀ i, i < a.nl → md.2.1 5 i = jI (a.lm i)) (u_pd : ∀ i, i < 12 → md.2.1 6 i = jI (b01 (if i < a.nl then a.pd i else false))) (u_kn : ∀ d, d < 41 → md.2.1 7 d = jI (a.kn d)) (u_km : ∀ d, d < 41 → ∀ k, k < a.kn d → md.2.1 8 (3 * d + k) = jI (a.km d k)) (u_ru : ∀ d, d < 41 → md.2.2 0 d = jL (a.ru d)) (u_lg : ∀ i, i < 12 → ∀ k, k < 6 → md.2.2 1 (6 * i + k) = jL (if i < a.nl then a.lg i k else 0 : Nat)) (u_px : ∀ i, i < 12 → md.2.2 2 i = jL (if i < a.nl then a.px i else 0)) (u_py : ∀ i, i < 12 → md.2.2 3 i = jL (if i < a.nl then a.py i else 0)) (u_pz : ∀ i, i < 12 → md.2.2 4 i = jL (if i < a.nl then a.pz i else 0)) (u_kl : ∀ d, d < 41 → ∀ k, k < a.kn d → md.2.2 5 (3 * d + k) = jL (a.kl d k)) : RM a md := ⟨u_s0, u_s1, u_s2, u_tx, u_lc, u_bn, u_sh, u_di, u_ma, u_pd, u_kn, u_km, u_ru, u_lg, u_px, u_py, u_pz, u_kl⟩
def Keep (md m2 : MS) : Prop := (∀ k, k < 8 → m2.1 k = md.1 k) ∧ (∀ k, k < 19 → m2.2.1 k = md.2.1 k) ∧ (∀ k, k < 9 → m2.2.2 k = md.2.2 k)
theorem Keep.rf (md : MS) : Keep md md := ⟨fun _ _ => rfl, fun _ _ => rfl, fun _ _ => rfl⟩
theorem Keep.tr {a b c : MS} (h : Keep a b) (g : Keep b c) : Keep a c := ⟨fun k h1 => (g.1 k h1).trans (h.1 k h1), fun k h1 => (g.2.1 k h1).trans (h.2.1 k h1), fun k h1 => (g.2.2 k h1).trans (h.2.2 k h1)⟩
theorem Keep.sI {md m2 : MS} (h : Keep md m2) {k : Nat} {v : Int32} (hk : 8 ≤ k) : Keep md (sI m2 k v) := ⟨fun j hj => by
  show va_up m2.1 k v j = _
  rw [va_up, if_neg (by omega)]; exact h.1 j hj, h.2.1, h.2.2⟩
theorem Keep.sA {md m2 : MS} (h : Keep md m2) {k : Nat} {v : Nat → Int32} (hk : 19 ≤ k) : Keep md (sA m2 k v) := ⟨h.1, fun j hj => by
  show va_up m2.2.1 k v j = _
  rw [va_up, if_neg (by omega)]; exact h.2.1 j hj, h.2.2⟩
theorem Keep.sL {md m2 : MS} (h : Keep md m2) {k : Nat} {v : Nat → Int64} (hk : 9 ≤ k) : Keep md (sL m2 k v) := ⟨h.1, h.2.1, fun j hj => by
  show va_up m2.2.2 k v j = _
  rw [va_up, if_neg (by omega)]; exact h.2.2 j hj⟩
theorem RM.kept {a : Ab} {md m2 : MS} (h : RM a md) (k : Keep md m2) : RM a m2 := by
  have k1 := k.1
  have k2 := k.2.1
  have k3 := k.2.2
  refine ⟨?_, ?_, ?_, ?_, ?_, ?_, ?_, ?_, ?_, ?_, ?_, ?_, ?_, ?_, ?_, ?_, ?_, ?_⟩
  all_goals first
    | (rw [k1 _ (by omega)]; first | exact h.s0 | exact h.s1 | exact h.s2)
    | (rw [k2 _ (by omega)]; first | exact h.tx | exact h.lc | exact h.bn | exact h.sh | exact h.di | exact h.ma | exact h.pd | exact h.kn | exact h.km)
    | (rw [k3 _ (by omega)]; first | exact h.ru | exact h.lg | exact h.px | exact h.py | exact h.pz | exact h.kl)
def sum6 (g : Nat → Nat) : Nat := g 0 + g 1 + g 2 + g 3 + g 4 + g 5
theorem c_sumOfLegs (ln : MS) (g : Nat → Nat) (hg : ∀ k, k < 6 → ln.2.1 0 k = jI (g k)) : f_Ln_sumOfLegs ln = some (jI (sum6 g)) := by
  have h0 := hg 0 (by omega)
  have h1 := hg 1 (by omega)
  have h2 := hg 2 (by omega)
  have h3 := hg 3 (by omega)
  have h4 := hg 4 (by omega)
  have h5 := hg 5 (by omega)
  obtain ⟨n, hn⟩ := fu_k 7 (by omega)
  unfold f_Ln_sumOfLegs
  rw [hn]
  rw [l_Ln_sumOfLegs_4]; simp (disch := omega) only [jI_lit, jL_lit, jI_n, jI_add, jI_sub, jI_mul, jI_neg, jL_add, jL_sub, jL_mul, jL_neg, jI_lt, jI_le, jI_eq, jL_lt, jL_le, jL_eq, jI_c, jI_64, jL_32, jI_div, jL_div, jx, bnd, if_true, if_false, if_pos, if_neg, Int.toNat_natCast, Int.reduceToNat, Int.add_zero, Int.zero_add, Int.reduceAdd, Int.reduceSub, Int.reduceMul, Int.reduceNeg, Int.reduceLT, Int.reduceLE, jI_rem]; rw [h0]
  rw [l_Ln_sumOfLegs_4]; simp (disch := omega) only [jI_lit, jL_lit, jI_n, jI_add, jI_sub, jI_mul, jI_neg, jL_add, jL_sub, jL_mul, jL_neg, jI_lt, jI_le, jI_eq, jL_lt, jL_le, jL_eq, jI_c, jI_64, jL_32, jI_div, jL_div, jx, bnd, if_true, if_false, if_pos, if_neg, Int.toNat_natCast, Int.reduceToNat, Int.add_zero, Int.zero_add, Int.reduceAdd, Int.reduceSub, Int.reduceMul, Int.reduceNeg, Int.reduceLT, Int.reduceLE, jI_rem]; rw [h1]
  rw [l_Ln_sumOfLegs_4]; simp (disch := omega) only [jI_lit, jL_lit, jI_n, jI_add, jI_sub, jI_mul, jI_neg, jL_add, jL_sub, jL_mul, jL_neg, jI_lt, jI_le, jI_eq, jL_lt, jL_le, jL_eq, jI_c, jI_64, jL_32, jI_div, jL_div, jx, bnd, if_true, if_false, if_pos, if_neg, Int.toNat_natCast, Int.reduceToNat, Int.add_zero, Int.zero_add, Int.reduceAdd, Int.reduceSub, Int.reduceMul, Int.reduceNeg, Int.reduceLT, Int.reduceLE, jI_rem]; rw [h2]
  rw [l_Ln_sumOfLegs_4]; simp (disch := omega) only [jI_lit, jL_lit, jI_n, jI_add, jI_sub, jI_mul, jI_neg, jL_add, jL_sub, jL_mul, jL_neg, jI_lt, jI_le, jI_eq, jL_lt, jL_le, jL_eq, jI_c, jI_64, jL_32, jI_div, jL_div, jx, bnd, if_true, if_false, if_pos, if_neg, Int.toNat_natCast, Int.reduceToNat, Int.add_zero, Int.zero_add, Int.reduceAdd, Int.reduceSub, Int.reduceMul, Int.reduceNeg, Int.reduceLT, Int.reduceLE, jI_rem]; rw [h3]
  rw [l_Ln_sumOfLegs_4]; simp (disch := omega) only [jI_lit, jL_lit, jI_n, jI_add, jI_sub, jI_mul, jI_neg, jL_add, jL_sub, jL_mul, jL_neg, jI_lt, jI_le, jI_eq, jL_lt, jL_le, jL_eq, jI_c, jI_64, jL_32, jI_div, jL_div, jx, bnd, if_true, if_false, if_pos, if_neg, Int.toNat_natCast, Int.reduceToNat, Int.add_zero, Int.zero_add, Int.reduceAdd, Int.reduceSub, Int.reduceMul, Int.reduceNeg, Int.reduceLT, Int.reduceLE, jI_rem]; rw [h4]
  rw [l_Ln_sumOfLegs_4]; simp (disch := omega) only [jI_lit, jL_lit, jI_n, jI_add, jI_sub, jI_mul, jI_neg, jL_add, jL_sub, jL_mul, jL_neg, jI_lt, jI_le, jI_eq, jL_lt, jL_le, jL_eq, jI_c, jI_64, jL_32, jI_div, jL_div, jx, bnd, if_true, if_false, if_pos, if_neg, Int.toNat_natCast, Int.reduceToNat, Int.add_zero, Int.zero_add, Int.reduceAdd, Int.reduceSub, Int.reduceMul, Int.reduceNeg, Int.reduceLT, Int.reduceLE, jI_rem]; rw [h5]
  rw [l_Ln_sumOfLegs_4]; simp (disch := omega) only [jI_lit, jL_lit, jI_n, jI_add, jI_sub, jI_mul, jI_neg, jL_add, jL_sub, jL_mul, jL_neg, jI_lt, jI_le, jI_eq, jL_lt, jL_le, jL_eq, jI_c, jI_64, jL_32, jI_div, jL_div, jx, bnd, if_true, if_false, if_pos, if_neg, Int.toNat_natCast, Int.reduceToNat, Int.add_zero, Int.zero_add, Int.reduceAdd, Int.reduceSub, Int.reduceMul, Int.reduceNeg, Int.reduceLT, Int.reduceLE, jI_rem]
  simp [sum6]
section Lines
variable {a : Ab} {nl : Nat} {nT : Nat → Nat} {LS TS : Nat → MS} {FP : Nat → Bool} {FS : Nat → MS} {bc sg tr tu ff pl lw md : MS}
theorem x_ofI (p : Int32) : ∃ z : Int, p = jI z ∧ -2147483648 ≤ z ∧ z < 2147483648 := ⟨p.toInt, by simp [jI], by have := Int32.le_toInt p; omega, by have := Int32.toInt_lt p; omega⟩
theorem x_ofL (p : Int64) : ∃ z : Int, p = jL z ∧ -9223372036854775808 ≤ z ∧ z < 9223372036854775808 := ⟨p.toInt, by simp [jL], by have := Int64.le_toInt p; omega, by have := Int64.toInt_lt p; omega⟩
theorem x_line (ok : Ok a) (rc : RC a nl nT LS TS FP FS bc sg) (rm : RM a md) (p1 : Int32) :
    (∃ i : Nat, i < a.nl ∧ p1 = jI i ∧ f_Bc_lineAt nl nT LS TS FP FS bc sg tr tu ff pl lw p1 = some (some i) ∧ f_Md_isLine md p1 = some 1) ∨ (f_Bc_lineAt nl nT LS TS FP FS bc sg tr tu ff pl lw p1 = some none ∧ f_Md_isLine md p1 = some 0) := by
  obtain ⟨z, rfl, h1, h2⟩ := x_ofI p1
  have hn := ok.nl
  unfold f_Bc_lineAt f_Md_isLine
  rw [rc.c1, rm.s2, rc.nl]
  by_cases c1 : z < 0
  · right; constructor <;> simp (disch := omega) only [jI_lit, jL_lit, jI_n, jI_add, jI_sub, jI_mul, jI_neg, jL_add, jL_sub, jL_mul, jL_neg, jI_lt, jI_le, jI_eq, jL_lt, jL_le, jL_eq, jI_c, jI_64, jL_32, jI_div, jL_div, jx, bnd, if_true, if_false, if_pos, if_neg, Int.toNat_natCast, Int.reduceToNat, Int.add_zero, Int.zero_add, Int.reduceAdd, Int.reduceSub, Int.reduceMul, Int.reduceNeg, Int.reduceLT, Int.reduceLE, jI_rem]
  · by_cases c2 : (a.nl : Int) ≤ z
    · right; constructor <;> simp (disch := omega) only [jI_lit, jL_lit, jI_n, jI_add, jI_sub, jI_mul, jI_neg, jL_add, jL_sub, jL_mul, jL_neg, jI_lt, jI_le, jI_eq, jL_lt, jL_le, jL_eq, jI_c, jI_64, jL_32, jI_div, jL_div, jx, bnd, if_true, if_false, if_pos, if_neg, Int.toNat_natCast, Int.reduceToNat, Int.add_zero, Int.zero_add, Int.reduceAdd, Int.reduceSub, Int.reduceMul, Int.reduceNeg, Int.reduceLT, Int.reduceLE, jI_rem]
    · left
      refine ⟨z.toNat, by omega, by congr 1; omega, ?_, ?_⟩ <;> simp (disch := omega) only [jI_lit, jL_lit, jI_n, jI_add, jI_sub, jI_mul, jI_neg, jL_add, jL_sub, jL_mul, jL_neg, jI_lt, jI_le, jI_eq, jL_lt, jL_le, jL_eq, jI_c, jI_64, jL_32, jI_div, jL_div, jx, bnd, if_true, if_false, if_pos, if_neg, Int.toNat_natCast, Int.reduceToNat, Int.add_zero, Int.zero_add, Int.reduceAdd, Int.reduceSub, Int.reduceMul, Int.reduceNeg, Int.reduceLT, Int.reduceLE, jI_rem]
def cutLen (a : Ab) (i : Nat) : Nat := sum6 (a.lg i) - a.ru (a.ld i) * qsum (a.sx (a.lsh i)) ((a.sn (a.lsh i) - 1) / 2)
theorem qsum_le (x : Nat → Nat) (k : Nat) : qsum x k ≤ 2 * k := by
  induction k with
  | zero => simp [qsum]
  | succ k ih =>
    have : qv (x (2 * k + 1)) ≤ 2 := by unfold qv; (repeat' split) <;> omega
    simp only [qsum]; omega
theorem x_sum6 (ok : Ok a) {i : Nat} (hi : i < a.nl) : sum6 (a.lg i) ≤ 120000 := by
  have h := ok.lg i hi
  have := h 0 (by omega)
  have := h 1 (by omega)
  have := h 2 (by omega)
  have := h 3 (by omega)
  have := h 4 (by omega)
  have := h 5 (by omega)
  unfold sum6; omega
theorem x_cutb (ok : Ok a) {i : Nat} (hi : i < a.nl) : cutLen a i ≤ 120000 := by
  have := x_sum6 ok hi
  unfold cutLen; omega
theorem x_rq (ok : Ok a) {i : Nat} (hi : i < a.nl) (k : Nat) (hk : k ≤ (a.sn (a.lsh i) - 1) / 2) : a.ru (a.ld i) * qsum (a.sx (a.lsh i)) k ≤ 5000 := by
  have h1 := ok.ru (a.ld i)
  have h2 := qsum_le (a.sx (a.lsh i)) k
  have h3 := (ok.sn (a.lsh i) (ok.lsh i hi)).2
  have h4 : qsum (a.sx (a.lsh i)) k ≤ 10 := by omega
  calc _ ≤ 500 * 10 := Nat.mul_le_mul h1 h4
    _ = 5000 := rfl
theorem x_cutLength (ok : Ok a) (rc : RC a nl nT LS TS FP FS bc sg) {i : Nat} (hi : i < a.nl) : f_Bc_cutLength nl nT LS TS FP FS bc sg tr tu ff pl lw i = some (jI (cutLen a i)) := by
  have hd := ok.ld i hi
  have hs := x_sum6 ok hi
  have hr := x_rq ok hi _ (Nat.le_refl _)
  unfold f_Bc_cutLength cutLen
  rw [(rc.ls i hi).di, (rc.ts i hi).qu, c_sumOfLegs _ _ (rc.ls i hi).lg]
  simp (disch := omega) only [jI_lit, jL_lit, jI_n, jI_add, jI_sub, jI_mul, jI_neg, jL_add, jL_sub, jL_mul, jL_neg, jI_lt, jI_le, jI_eq, jL_lt, jL_le, jL_eq, jI_c, jI_64, jL_32, jI_div, jL_div, jx, bnd, if_true, if_false, if_pos, if_neg, Int.toNat_natCast, Int.reduceToNat, Int.add_zero, Int.zero_add, Int.reduceAdd, Int.reduceSub, Int.reduceMul, Int.reduceNeg, Int.reduceLT, Int.reduceLE, jI_rem]
  rw [show ((a.ld i : Int) - 4).toNat = a.ld i - 4 from by omega, rc.ru _ (by omega), show a.ld i - 4 + 4 = a.ld i from by omega]
  generalize hq : qsum (a.sx (a.lsh i)) ((a.sn (a.lsh i) - 1) / 2) = q at hr ⊢
  rw [jI_mul, ← Int.natCast_mul]
  generalize a.ru (a.ld i) * q = w at hr ⊢
  by_cases c : w < sum6 (a.lg i)
  · simp (disch := omega) only [jI_lit, jL_lit, jI_n, jI_add, jI_sub, jI_mul, jI_neg, jL_add, jL_sub, jL_mul, jL_neg, jI_lt, jI_le, jI_eq, jL_lt, jL_le, jL_eq, jI_c, jI_64, jL_32, jI_div, jL_div, jx, bnd, if_true, if_false, if_pos, if_neg, Int.toNat_natCast, Int.reduceToNat, Int.add_zero, Int.zero_add, Int.reduceAdd, Int.reduceSub, Int.reduceMul, Int.reduceNeg, Int.reduceLT, Int.reduceLE, jI_rem]; congr 2; omega
  · simp (disch := omega) only [jI_lit, jL_lit, jI_n, jI_add, jI_sub, jI_mul, jI_neg, jL_add, jL_sub, jL_mul, jL_neg, jI_lt, jI_le, jI_eq, jL_lt, jL_le, jL_eq, jI_c, jI_64, jL_32, jI_div, jL_div, jx, bnd, if_true, if_false, if_pos, if_neg, Int.toNat_natCast, Int.reduceToNat, Int.add_zero, Int.zero_add, Int.reduceAdd, Int.reduceSub, Int.reduceMul, Int.reduceNeg, Int.reduceLT, Int.reduceLE, jI_rem]; congr 2; omega
end Lines
section Lines
variable {a : Ab} {nl : Nat} {nT : Nat → Nat} {LS TS : Nat → MS} {FP : Nat → Bool} {FS : Nat → MS} {bc sg tr tu ff pl lw md : MS}
theorem m_lgi (rm : RM a md) {i k : Nat} (hi : i < a.nl) (hn : a.nl ≤ 12) (hk : k < 6) : md.2.2 1 (6 * i + k) = jL (a.lg i k) := by
  rw [rm.lg i (by omega) k hk, if_pos hi]
theorem m_sumOf (ok : Ok a) (rm : RM a md) {i : Nat} (hi : i < a.nl) : f_Md_sumOf md (jI i) = some (jL (sum6 (a.lg i))) := by
  have hn := ok.nl
  obtain ⟨n, hn2⟩ := fu_k 7 (by omega)
  have L := fun k hk => m_lgi rm hi hn (k := k) hk
  unfold f_Md_sumOf
  rw [hn2]
  rw [l_Md_sumOf_5]; simp (disch := omega) only [jI_lit, jL_lit, jI_n, jI_add, jI_sub, jI_mul, jI_neg, jL_add, jL_sub, jL_mul, jL_neg, jI_lt, jI_le, jI_eq, jL_lt, jL_le, jL_eq, jI_c, jI_64, jL_32, jI_div, jL_div, jx, bnd, if_true, if_false, if_pos, if_neg, Int.toNat_natCast, Int.reduceToNat, Int.add_zero, Int.zero_add, Int.reduceAdd, Int.reduceSub, Int.reduceMul, Int.reduceNeg, Int.reduceLT, Int.reduceLE, jI_rem]; rw [show (6 * (i : Int)).toNat = 6 * i + 0 from by omega, L 0 (by omega)]
  rw [l_Md_sumOf_5]; simp (disch := omega) only [jI_lit, jL_lit, jI_n, jI_add, jI_sub, jI_mul, jI_neg, jL_add, jL_sub, jL_mul, jL_neg, jI_lt, jI_le, jI_eq, jL_lt, jL_le, jL_eq, jI_c, jI_64, jL_32, jI_div, jL_div, jx, bnd, if_true, if_false, if_pos, if_neg, Int.toNat_natCast, Int.reduceToNat, Int.add_zero, Int.zero_add, Int.reduceAdd, Int.reduceSub, Int.reduceMul, Int.reduceNeg, Int.reduceLT, Int.reduceLE, jI_rem]; rw [show (6 * (i : Int) + 1).toNat = 6 * i + 1 from by omega, L 1 (by omega)]
  rw [l_Md_sumOf_5]; simp (disch := omega) only [jI_lit, jL_lit, jI_n, jI_add, jI_sub, jI_mul, jI_neg, jL_add, jL_sub, jL_mul, jL_neg, jI_lt, jI_le, jI_eq, jL_lt, jL_le, jL_eq, jI_c, jI_64, jL_32, jI_div, jL_div, jx, bnd, if_true, if_false, if_pos, if_neg, Int.toNat_natCast, Int.reduceToNat, Int.add_zero, Int.zero_add, Int.reduceAdd, Int.reduceSub, Int.reduceMul, Int.reduceNeg, Int.reduceLT, Int.reduceLE, jI_rem]; rw [show (6 * (i : Int) + 2).toNat = 6 * i + 2 from by omega, L 2 (by omega)]
  rw [l_Md_sumOf_5]; simp (disch := omega) only [jI_lit, jL_lit, jI_n, jI_add, jI_sub, jI_mul, jI_neg, jL_add, jL_sub, jL_mul, jL_neg, jI_lt, jI_le, jI_eq, jL_lt, jL_le, jL_eq, jI_c, jI_64, jL_32, jI_div, jL_div, jx, bnd, if_true, if_false, if_pos, if_neg, Int.toNat_natCast, Int.reduceToNat, Int.add_zero, Int.zero_add, Int.reduceAdd, Int.reduceSub, Int.reduceMul, Int.reduceNeg, Int.reduceLT, Int.reduceLE, jI_rem]; rw [show (6 * (i : Int) + 3).toNat = 6 * i + 3 from by omega, L 3 (by omega)]
  rw [l_Md_sumOf_5]; simp (disch := omega) only [jI_lit, jL_lit, jI_n, jI_add, jI_sub, jI_mul, jI_neg, jL_add, jL_sub, jL_mul, jL_neg, jI_lt, jI_le, jI_eq, jL_lt, jL_le, jL_eq, jI_c, jI_64, jL_32, jI_div, jL_div, jx, bnd, if_true, if_false, if_pos, if_neg, Int.toNat_natCast, Int.reduceToNat, Int.add_zero, Int.zero_add, Int.reduceAdd, Int.reduceSub, Int.reduceMul, Int.reduceNeg, Int.reduceLT, Int.reduceLE, jI_rem]; rw [show (6 * (i : Int) + 4).toNat = 6 * i + 4 from by omega, L 4 (by omega)]
  rw [l_Md_sumOf_5]; simp (disch := omega) only [jI_lit, jL_lit, jI_n, jI_add, jI_sub, jI_mul, jI_neg, jL_add, jL_sub, jL_mul, jL_neg, jI_lt, jI_le, jI_eq, jL_lt, jL_le, jL_eq, jI_c, jI_64, jL_32, jI_div, jL_div, jx, bnd, if_true, if_false, if_pos, if_neg, Int.toNat_natCast, Int.reduceToNat, Int.add_zero, Int.zero_add, Int.reduceAdd, Int.reduceSub, Int.reduceMul, Int.reduceNeg, Int.reduceLT, Int.reduceLE, jI_rem]; rw [show (6 * (i : Int) + 5).toNat = 6 * i + 5 from by omega, L 5 (by omega)]
  rw [l_Md_sumOf_5]; simp (disch := omega) only [jI_lit, jL_lit, jI_n, jI_add, jI_sub, jI_mul, jI_neg, jL_add, jL_sub, jL_mul, jL_neg, jI_lt, jI_le, jI_eq, jL_lt, jL_le, jL_eq, jI_c, jI_64, jL_32, jI_div, jL_div, jx, bnd, if_true, if_false, if_pos, if_neg, Int.toNat_natCast, Int.reduceToNat, Int.add_zero, Int.zero_add, Int.reduceAdd, Int.reduceSub, Int.reduceMul, Int.reduceNeg, Int.reduceLT, Int.reduceLE, jI_rem]
  simp [sum6]
theorem bendC_3 {c : Nat} (h : isBend c) : (if bendC c = 3 then 2 else 1) = qv c := by
  rcases h with rfl | rfl | rfl <;> rfl
theorem bendC_b (c : Nat) : bendC c ≤ 3 := by unfold bendC; (repeat' split) <;> omega
theorem m_lenL (ok : Ok a) (rm : RM a md) {i : Nat} (hi : i < a.nl) (S : Int) (hS : 0 ≤ S ∧ S ≤ 120000) : ∀ (n k : Nat), k ≤ (a.sn (a.lsh i) - 1) / 2 → (a.sn (a.lsh i) - 1) / 2 - k < n →
    l_Md_lengthOf_9 n (jI i) (jL (S - a.ru (a.ld i) * qsum (a.sx (a.lsh i)) k)) (jI k) md = some (jL (S - a.ru (a.ld i) * qsum (a.sx (a.lsh i)) ((a.sn (a.lsh i) - 1) / 2)), jI ((a.sn (a.lsh i) - 1) / 2 : Nat)) := by
  intro n
  have hn := ok.nl
  have hs := ok.lsh i hi
  have hns := ok.ns
  have hsn := ok.sn _ hs
  have hd := ok.ld i hi
  have hru := ok.ru (a.ld i)
  induction n with
  | zero => intro k _ h; omega
  | succ n ih =>
    intro k hk hf
    have hrq := x_rq ok hi k hk
    rw [l_Md_lengthOf_9]
    simp (disch := omega) only [jI_lit, jL_lit, jI_n, jI_add, jI_sub, jI_mul, jI_neg, jL_add, jL_sub, jL_mul, jL_neg, jI_lt, jI_le, jI_eq, jL_lt, jL_le, jL_eq, jI_c, jI_64, jL_32, jI_div, jL_div, jx, bnd, if_true, if_false, if_pos, if_neg, Int.toNat_natCast, Int.reduceToNat, Int.add_zero, Int.zero_add, Int.reduceAdd, Int.reduceSub, Int.reduceMul, Int.reduceNeg, Int.reduceLT, Int.reduceLE, jI_rem]
    rw [rm.sh i hi]
    simp (disch := omega) only [jI_lit, jL_lit, jI_n, jI_add, jI_sub, jI_mul, jI_neg, jL_add, jL_sub, jL_mul, jL_neg, jI_lt, jI_le, jI_eq, jL_lt, jL_le, jL_eq, jI_c, jI_64, jL_32, jI_div, jL_div, jx, bnd, if_true, if_false, if_pos, if_neg, Int.toNat_natCast, Int.reduceToNat, Int.add_zero, Int.zero_add, Int.reduceAdd, Int.reduceSub, Int.reduceMul, Int.reduceNeg, Int.reduceLT, Int.reduceLE, jI_rem]
    rw [rm.lc _ hs]
    by_cases c : (a.sn (a.lsh i) + 1) / 2 ≤ k + 1
    · simp (disch := omega) only [jI_lit, jL_lit, jI_n, jI_add, jI_sub, jI_mul, jI_neg, jL_add, jL_sub, jL_mul, jL_neg, jI_lt, jI_le, jI_eq, jL_lt, jL_le, jL_eq, jI_c, jI_64, jL_32, jI_div, jL_div, jx, bnd, if_true, if_false, if_pos, if_neg, Int.toNat_natCast, Int.reduceToNat, Int.add_zero, Int.zero_add, Int.reduceAdd, Int.reduceSub, Int.reduceMul, Int.reduceNeg, Int.reduceLT, Int.reduceLE, jI_rem]
      have : k = (a.sn (a.lsh i) - 1) / 2 := by omega
      rw [← this]
    · simp (disch := omega) only [jI_lit, jL_lit, jI_n, jI_add, jI_sub, jI_mul, jI_neg, jL_add, jL_sub, jL_mul, jL_neg, jI_lt, jI_le, jI_eq, jL_lt, jL_le, jL_eq, jI_c, jI_64, jL_32, jI_div, jL_div, jx, bnd, if_true, if_false, if_pos, if_neg, Int.toNat_natCast, Int.reduceToNat, Int.add_zero, Int.zero_add, Int.reduceAdd, Int.reduceSub, Int.reduceMul, Int.reduceNeg, Int.reduceLT, Int.reduceLE, jI_rem]
      rw [show (6 * (a.lsh i : Int) + k).toNat = 6 * a.lsh i + k from by omega, rm.bn _ hs k (by omega), rm.di i hi]
      simp (disch := omega) only [jI_lit, jL_lit, jI_n, jI_add, jI_sub, jI_mul, jI_neg, jL_add, jL_sub, jL_mul, jL_neg, jI_lt, jI_le, jI_eq, jL_lt, jL_le, jL_eq, jI_c, jI_64, jL_32, jI_div, jL_div, jx, bnd, if_true, if_false, if_pos, if_neg, Int.toNat_natCast, Int.reduceToNat, Int.add_zero, Int.zero_add, Int.reduceAdd, Int.reduceSub, Int.reduceMul, Int.reduceNeg, Int.reduceLT, Int.reduceLE, jI_rem]
      rw [rm.ru _ (by omega)]
      have hb := bendC_b (a.sx (a.lsh i) (2 * k + 1))
      have hq := bendC_3 (ok.sxo _ hs k (by omega))
      have ih' := ih (k + 1) (by omega) (by omega)
      simp only [qsum] at ih'
      by_cases c3 : bendC (a.sx (a.lsh i) (2 * k + 1)) = 3
      · rw [if_pos c3] at hq
        simp (disch := omega) only [jI_lit, jL_lit, jI_n, jI_add, jI_sub, jI_mul, jI_neg, jL_add, jL_sub, jL_mul, jL_neg, jI_lt, jI_le, jI_eq, jL_lt, jL_le, jL_eq, jI_c, jI_64, jL_32, jI_div, jL_div, jx, bnd, if_true, if_false, if_pos, if_neg, Int.toNat_natCast, Int.reduceToNat, Int.add_zero, Int.zero_add, Int.reduceAdd, Int.reduceSub, Int.reduceMul, Int.reduceNeg, Int.reduceLT, Int.reduceLE, jI_rem]
        rw [← ih', ← hq]
        congr 2
        rw [Int.natCast_add, Int.mul_add]; simp; omega
      · rw [if_neg c3] at hq
        simp (disch := omega) only [jI_lit, jL_lit, jI_n, jI_add, jI_sub, jI_mul, jI_neg, jL_add, jL_sub, jL_mul, jL_neg, jI_lt, jI_le, jI_eq, jL_lt, jL_le, jL_eq, jI_c, jI_64, jL_32, jI_div, jL_div, jx, bnd, if_true, if_false, if_pos, if_neg, Int.toNat_natCast, Int.reduceToNat, Int.add_zero, Int.zero_add, Int.reduceAdd, Int.reduceSub, Int.reduceMul, Int.reduceNeg, Int.reduceLT, Int.reduceLE, jI_rem]
        rw [← ih', ← hq]
        congr 2
        rw [Int.natCast_add, Int.mul_add]; simp; omega
theorem m_lengthOf (ok : Ok a) (rm : RM a md) {i : Nat} (hi : i < a.nl) : f_Md_lengthOf md (jI i) = some (jL (cutLen a i)) := by
  have hs := x_sum6 ok hi
  have hr := x_rq ok hi _ (Nat.le_refl _)
  have hsn := ok.sn _ (ok.lsh i hi)
  unfold f_Md_lengthOf
  rw [m_sumOf ok rm hi, bnd]
  have h := m_lenL ok rm hi (sum6 (a.lg i)) ⟨by omega, by omega⟩ fu 0 (by omega) (by unfold fu; omega)
  simp only [qsum, Int.natCast_zero, Int.mul_zero, Int.sub_zero, Int.ofNat_zero] at h
  rw [show (0 : Int32) = jI 0 from rfl, h, bnd]
  unfold cutLen
  rw [← Int.natCast_mul]
  generalize a.ru (a.ld i) * qsum (a.sx (a.lsh i)) ((a.sn (a.lsh i) - 1) / 2) = w at hr ⊢
  by_cases c : w ≤ sum6 (a.lg i)
  · simp (disch := omega) only [jI_lit, jL_lit, jI_n, jI_add, jI_sub, jI_mul, jI_neg, jL_add, jL_sub, jL_mul, jL_neg, jI_lt, jI_le, jI_eq, jL_lt, jL_le, jL_eq, jI_c, jI_64, jL_32, jI_div, jL_div, jx, bnd, if_true, if_false, if_pos, if_neg, Int.toNat_natCast, Int.reduceToNat, Int.add_zero, Int.zero_add, Int.reduceAdd, Int.reduceSub, Int.reduceMul, Int.reduceNeg, Int.reduceLT, Int.reduceLE, jI_rem]; congr 2; omega
  · simp (disch := omega) only [jI_lit, jL_lit, jI_n, jI_add, jI_sub, jI_mul, jI_neg, jL_add, jL_sub, jL_mul, jL_neg, jI_lt, jI_le, jI_eq, jL_lt, jL_le, jL_eq, jI_c, jI_64, jL_32, jI_div, jL_div, jx, bnd, if_true, if_false, if_pos, if_neg, Int.toNat_natCast, Int.reduceToNat, Int.add_zero, Int.zero_add, Int.reduceAdd, Int.reduceSub, Int.reduceMul, Int.reduceNeg, Int.reduceLT, Int.reduceLE, jI_rem]; congr 2; omega
theorem x_length (ok : Ok a) (rc : RC a nl nT LS TS FP FS bc sg) (rm : RM a md) (p1 p2 : Int32) : ∃ r, f_Bc_length nl nT LS TS FP FS bc sg tr tu ff pl lw p1 p2 = some r ∧ f_Md_length md p1 p2 = some r := by
  unfold f_Bc_length f_Md_length
  rcases x_line (tr := tr) (tu := tu) (ff := ff) (pl := pl) (lw := lw) ok rc rm p1 with ⟨i, hi, rfl, h1, h2⟩ | ⟨h1, h2⟩
  · rw [h1, h2]
    simp only [bnd, Option.elim_some]
    rw [if_neg (show ¬ (1 : Int32) = 0 by decide), x_cutLength ok rc hi, m_lengthOf ok rm hi, m_sumOf ok rm hi, c_sumOfLegs _ _ (rc.ls i hi).lg, (rc.ls i hi).sh, (rc.ls i hi).di, (rc.ls i hi).ma]
    have hn := ok.nl
    obtain ⟨z, rfl, z1, z2⟩ := x_ofI p2
    have b1 := x_cutb ok hi
    have b2 := x_sum6 ok hi
    have b3 := ok.lm i hi
    have b4 := ok.ld i hi
    have b5 := ok.lsh i hi
    have b6 := ok.ns
    simp (disch := omega) only [jI_lit, jL_lit, jI_n, jI_add, jI_sub, jI_mul, jI_neg, jL_add, jL_sub, jL_mul, jL_neg, jI_lt, jI_le, jI_eq, jL_lt, jL_le, jL_eq, jI_c, jI_64, jL_32, jI_div, jL_div, jx, bnd, if_true, if_false, if_pos, if_neg, Int.toNat_natCast, Int.reduceToNat, Int.add_zero, Int.zero_add, Int.reduceAdd, Int.reduceSub, Int.reduceMul, Int.reduceNeg, Int.reduceLT, Int.reduceLE, jI_rem]
    rw [rm.sh i hi, rm.di i hi, rm.ma i hi]
    simp (disch := omega) only [jI_lit, jL_lit, jI_n, jI_add, jI_sub, jI_mul, jI_neg, jL_add, jL_sub, jL_mul, jL_neg, jI_lt, jI_le, jI_eq, jL_lt, jL_le, jL_eq, jI_c, jI_64, jL_32, jI_div, jL_div, jx, bnd, if_true, if_false, if_pos, if_neg, Int.toNat_natCast, Int.reduceToNat, Int.add_zero, Int.zero_add, Int.reduceAdd, Int.reduceSub, Int.reduceMul, Int.reduceNeg, Int.reduceLT, Int.reduceLE, jI_rem]
    by_cases c0 : z = 0
    · subst c0; simp
    · by_cases c1 : z = 1
      · subst c1; simp
      · by_cases c2 : z = 2
        · subst c2; simp
        · by_cases c3 : z = 3
          · subst c3; simp
          · by_cases c4 : z = 4
            · subst c4; simp
            · by_cases c5 : z < 0
              · refine ⟨_, by first | (simp (disch := omega) only [jI_lit, jL_lit, jI_n, jI_add, jI_sub, jI_mul, jI_neg, jL_add, jL_sub, jL_mul, jL_neg, jI_lt, jI_le, jI_eq, jL_lt, jL_le, jL_eq, jI_c, jI_64, jL_32, jI_div, jL_div, jx, bnd, if_true, if_false, if_pos, if_neg, Int.toNat_natCast, Int.reduceToNat, Int.add_zero, Int.zero_add, Int.reduceAdd, Int.reduceSub, Int.reduceMul, Int.reduceNeg, Int.reduceLT, Int.reduceLE, jI_rem]; done) | (simp (disch := omega) only [jI_lit, jL_lit, jI_n, jI_add, jI_sub, jI_mul, jI_neg, jL_add, jL_sub, jL_mul, jL_neg, jI_lt, jI_le, jI_eq, jL_lt, jL_le, jL_eq, jI_c, jI_64, jL_32, jI_div, jL_div, jx, bnd, if_true, if_false, if_pos, if_neg, Int.toNat_natCast, Int.reduceToNat, Int.add_zero, Int.zero_add, Int.reduceAdd, Int.reduceSub, Int.reduceMul, Int.reduceNeg, Int.reduceLT, Int.reduceLE, jI_rem]; rfl) | rfl, by first | (simp (disch := omega) only [jI_lit, jL_lit, jI_n, jI_add, jI_sub, jI_mul, jI_neg, jL_add, jL_sub, jL_mul, jL_neg, jI_lt, jI_le, jI_eq, jL_lt, jL_le, jL_eq, jI_c, jI_64, jL_32, jI_div, jL_div, jx, bnd, if_true, if_false, if_pos, if_neg, Int.toNat_natCast, Int.reduceToNat, Int.add_zero, Int.zero_add, Int.reduceAdd, Int.reduceSub, Int.reduceMul, Int.reduceNeg, Int.reduceLT, Int.reduceLE, jI_rem]; done) | (simp (disch := omega) only [jI_lit, jL_lit, jI_n, jI_add, jI_sub, jI_mul, jI_neg, jL_add, jL_sub, jL_mul, jL_neg, jI_lt, jI_le, jI_eq, jL_lt, jL_le, jL_eq, jI_c, jI_64, jL_32, jI_div, jL_div, jx, bnd, if_true, if_false, if_pos, if_neg, Int.toNat_natCast, Int.reduceToNat, Int.add_zero, Int.zero_add, Int.reduceAdd, Int.reduceSub, Int.reduceMul, Int.reduceNeg, Int.reduceLT, Int.reduceLE, jI_rem]; rfl) | rfl⟩
              · refine ⟨_, by first | (simp (disch := omega) only [jI_lit, jL_lit, jI_n, jI_add, jI_sub, jI_mul, jI_neg, jL_add, jL_sub, jL_mul, jL_neg, jI_lt, jI_le, jI_eq, jL_lt, jL_le, jL_eq, jI_c, jI_64, jL_32, jI_div, jL_div, jx, bnd, if_true, if_false, if_pos, if_neg, Int.toNat_natCast, Int.reduceToNat, Int.add_zero, Int.zero_add, Int.reduceAdd, Int.reduceSub, Int.reduceMul, Int.reduceNeg, Int.reduceLT, Int.reduceLE, jI_rem]; done) | (simp (disch := omega) only [jI_lit, jL_lit, jI_n, jI_add, jI_sub, jI_mul, jI_neg, jL_add, jL_sub, jL_mul, jL_neg, jI_lt, jI_le, jI_eq, jL_lt, jL_le, jL_eq, jI_c, jI_64, jL_32, jI_div, jL_div, jx, bnd, if_true, if_false, if_pos, if_neg, Int.toNat_natCast, Int.reduceToNat, Int.add_zero, Int.zero_add, Int.reduceAdd, Int.reduceSub, Int.reduceMul, Int.reduceNeg, Int.reduceLT, Int.reduceLE, jI_rem]; rfl) | rfl, by first | (simp (disch := omega) only [jI_lit, jL_lit, jI_n, jI_add, jI_sub, jI_mul, jI_neg, jL_add, jL_sub, jL_mul, jL_neg, jI_lt, jI_le, jI_eq, jL_lt, jL_le, jL_eq, jI_c, jI_64, jL_32, jI_div, jL_div, jx, bnd, if_true, if_false, if_pos, if_neg, Int.toNat_natCast, Int.reduceToNat, Int.add_zero, Int.zero_add, Int.reduceAdd, Int.reduceSub, Int.reduceMul, Int.reduceNeg, Int.reduceLT, Int.reduceLE, jI_rem]; done) | (simp (disch := omega) only [jI_lit, jL_lit, jI_n, jI_add, jI_sub, jI_mul, jI_neg, jL_add, jL_sub, jL_mul, jL_neg, jI_lt, jI_le, jI_eq, jL_lt, jL_le, jL_eq, jI_c, jI_64, jL_32, jI_div, jL_div, jx, bnd, if_true, if_false, if_pos, if_neg, Int.toNat_natCast, Int.reduceToNat, Int.add_zero, Int.zero_add, Int.reduceAdd, Int.reduceSub, Int.reduceMul, Int.reduceNeg, Int.reduceLT, Int.reduceLE, jI_rem]; rfl) | rfl⟩
  · rw [h1, h2]
    exact ⟨-1, rfl, rfl⟩
end Lines
