def gsV (K Z B S : Nat → Int) : Int := if firstN (fun i => hrB K Z B S (200 - (i : Int))) 201 = -1 then -1 else 200 - firstN (fun i => hrB K Z B S (200 - (i : Int))) 201
