section PAs
variable {K W : Nat → Int} {b : Int} {i : Nat} {lv : Int}
theorem NS7 (K W : Nat → Int) (i : Nat) : NS K W 7 i := ⟨fun z => by omega, fun z => by omega⟩
end PAs
section SUs
variable {K W : Nat → Int} {l b o : Int} {i i' i2 : Nat} {lv lv' lv2 : Int}
end SUs

section TEs
variable {K W : Nat → Int} {l b o : Int} {i i' i2 i3 : Nat} {lv lv' lv2 lv3 : Int}
theorem NT3 (K W : Nat → Int) (i : Nat) : NT K W 3 i := ⟨fun z => by omega, fun z => by omega⟩
end TEs

