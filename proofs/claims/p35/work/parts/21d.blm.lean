/-! A ROUND OF STEPS THAT LEAVES THE MEMORY: NOTHING IN IT IS UNKNOWN, SO THE KERNEL RUNS IT -/
section BM
variable {n : Nat} {ct : Nat × Nat} {d μ : Nat} {Q : Option zV → zM → Prop} {M : zM} {code : List zE} {mL : Nat} {B : Nat × Nat}
theorem zG_blm (k : Nat) {c c' : zC} (hd : 0 < d) (hm : zP μ = (code, mL, B)) (h : zsteps code B k c (zSH n, M, ct.1, ct.2) = some (c', (zSH n, M, ct.1, ct.2))) (K : zG n ct d μ c' M Q) : zG n ct d μ c M Q := zG_blk k hd hm h K
end BM
