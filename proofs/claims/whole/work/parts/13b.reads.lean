/-! reads whose value is known -/
section ZRD
variable {l : Launch} {d : Nat} {M : zM} {pc : Nat} {ls st : List Value} {τ : tS} {cs : Nat × Nat} {r : zR}
theorem zi_getiE {ci q j N index : Nat} {C : String} {T : u_T} {ty : Nat → FieldType} {fs : List (Option (Option Nat))} {x : Int} (hd : decode M.2.1 pc = .ok (.getfield index, 3)) (hC : zC ci C T N ty) (hl : zI (.fieldLink M.1.cls index (T j).1 (T j).2.1 (T j).2.2.1)) (hj : j < N) (hS : SH[q]? = some (.inr (ci, fs))) (hf : fs[j]? = some none) (hx : τ q j = x) (k : zV l d M (pc + 3) ls (vi x :: st) τ cs r) : zV l d M pc ls (.ref q :: st) τ cs r := zi_geti hd hC hl hj hS hf (by rw [hx]; exact k)
theorem zi_ialdE {q n : Nat} {a x : Int} (hd : decode M.2.1 pc = .ok (.iaload, 1)) (hS : SH[q]? = some (.inl (0, n))) (hn : n < 2147483648) (h0 : 0 ≤ a) (h1 : a < n) (hx : τ q a.toNat = x) (k : zV l d M (pc + 1) ls (vi x :: st) τ cs r) : zV l d M pc ls (vi a :: .ref q :: st) τ cs r := zi_iald hd hS hn h0 h1 (by rw [hx]; exact k)
theorem zi_zaldE {q n : Nat} {a x : Int} (hd : decode M.2.1 pc = .ok (.baload, 1)) (hS : SH[q]? = some (.inl (1, n))) (hn : n < 2147483648) (h0 : 0 ≤ a) (h1 : a < n) (hx : τ q a.toNat = x) (k : zV l d M (pc + 1) ls (vi x :: st) τ cs r) : zV l d M pc ls (vi a :: .ref q :: st) τ cs r := zi_zald hd hS hn h0 h1 (by rw [hx]; exact k)
end ZRD
