def brm (t c : Nat → Int32) (s j : Nat) : Int32 := mx 0 (sndP t c (nI (3 * s + j)))
def mdS (t c : Nat → Int32) (s : Nat) (p : Int32 × Int32 × Int32) : Int32 × Int32 × Int32 := (mn (mx p.1 p.2.1) (brm t c s 0), mn (mx (mx p.2.1 p.1) p.2.2) (brm t c s 1), mn (mx p.2.2 p.2.1) (brm t c s 2))
def md (t c : Nat → Int32) (f : Nat) : Nat → Int32 × Int32 × Int32
  | 0 => (brm t c f 0, brm t c f 1, brm t c f 2)
  | n + 1 => mdS t c (f + n + 1) (md t c f n)
def mdD (t c : Nat → Int32) (f : Nat) : Nat → Int32 × Int32 × Int32
  | 0 => (brm t c f 0, brm t c f 1, brm t c f 2)
  | n + 1 => mdS t c (f - (n + 1)) (mdD t c f n)
def mdM (p : Int32 × Int32 × Int32) : Int32 := mx p.1 (mx p.2.1 p.2.2)
def brF (t c : Nat → Int32) (f0 t0 : Nat) : Int32 := if f0 < t0 then mdM (md t c f0 (t0 - f0)) else mdM (mdD t c f0 (f0 - t0))
theorem nI_dn {f n : Nat} (h : n < f) : nI (f - n) + (-1) = nI (f - (n + 1)) := by
  rw [show f - n = (f - (n + 1)) + 1 by omega]
  exact pk_m1 _
theorem md_step {f : Nat → Int32} {a b c : Int32} {q : Int32 × Int32 × Int32} (h : (a, b, c) = q) : ((upd (upd (upd f 0 a) 1 b) 2 c) 0, (upd (upd (upd f 0 a) 1 b) 2 c) 1, (upd (upd (upd f 0 a) 1 b) 2 c) 2) = q := h
theorem md_tup {t c : Nat → Int32} {s : Nat} {x y z : Int32} : (mn (mx x y) (brm t c s 0), mn (mx (mx y x) z) (brm t c s 1), mn (mx z y) (brm t c s 2)) = mdS t c s (x, y, z) := rfl
