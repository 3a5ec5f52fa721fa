/-! THE SAME OF RUNS THAT END -/
section BN
variable {n : Nat} {ct : Nat × Nat} {μ : Nat} {Q : Option zV → zM → Prop} {M : zM} {code : List zE} {mL : Nat} {B : Nat × Nat}
theorem zH_blm (k : Nat) {c c' : zC} (hm : zP μ = (code, mL, B)) (h : zsteps code B k c (zSH n, M, ct.1, ct.2) = some (c', (zSH n, M, ct.1, ct.2))) (K : zH n ct μ c' M Q) : zH n ct μ c M Q := zH_blk k hm h K
end BN
