section PZZ
theorem zz_t : True := trivial
end PZZ
