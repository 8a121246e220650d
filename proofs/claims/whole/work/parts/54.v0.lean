theorem zz_v0 : True := trivial
