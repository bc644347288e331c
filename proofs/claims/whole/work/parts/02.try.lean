theorem zz_nil : True := trivial
