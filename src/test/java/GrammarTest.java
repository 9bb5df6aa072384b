/** Part 2 of the terms and promises 4 to 6: the grammar, its limits, and faults 2, 3 and 4. */
public final class GrammarTest {
  public static void main(String[] args) {
    beginnings();
    strengths();
    nesting();
    numbers();
    names();
    breaksAndDots();
    leastFault();
    Bench.end("GrammarTest");
  }

  private static void beginnings() {
    Bench.faults("f", 2, 1);
    Bench.faults("f.x y()", 2, 4);
    Bench.faults("(f)", 2, 3);
    Bench.faults("(f) = 1", 2, 4);
    Bench.faults("f() = 1", 2, 4);
    Bench.faults("f(), x = 1", 2, 3);
    Bench.faults("x, f() = 1", 2, 7);
    Bench.faults("x, (y) = 1", 2, 7);
    Bench.faults("x, 1 = 1", 2, 3);
    Bench.faults("x y = 1", 2, 2);
    Bench.faults("1()", 2, 0);
    Bench.faults("'a'()", 2, 0);
    Bench.faults("return 1 x()", 2, 9);
    Bench.faults("return ; ;", 2, 9);
    Bench.faults("return ,", 2, 7);
    Bench.faults("do return 1 else end", 2, 12);
    Bench.faults("end", 2, 0);
    Bench.faults("if x then", 2, 9);
    Bench.faults("if x do", 2, 5);
    Bench.faults("if x then else elseif", 2, 15);
    Bench.faults("while x then", 2, 8);
    Bench.faults("repeat until", 2, 12);
    Bench.faults("repeat end", 2, 7);
    Bench.faults("for 1 = 1, 2 do end", 2, 4);
    Bench.faults("for i = 1 do end", 2, 10);
    Bench.faults("for i = 1, 2, 3, 4 do end", 2, 15);
    Bench.faults("for i, j = 1, 2 do end", 2, 9);
    Bench.faults("for i do end", 2, 6);
    Bench.faults("for i.x in y do end", 2, 5);
    Bench.faults("function (x) end", 2, 9);
    Bench.faults("function f.x:y.z() end", 2, 14);
    Bench.faults("function f[1]() end", 2, 10);
    Bench.faults("function f(x,) end", 2, 13);
    Bench.faults("function f(..., x) end", 2, 14);
    Bench.faults("function f(x ...) end", 2, 13);
    Bench.faults("local function f.x() end", 2, 16);
    Bench.faults("local function (x) end", 2, 15);
    Bench.faults("local x.y = 1", 2, 7);
    Bench.faults("local x =", 2, 9);
    Bench.faults("local 1", 2, 6);
    Bench.faults("x = {,}", 2, 5);
    Bench.faults("x = {1,,}", 2, 7);
    Bench.faults("x = {1 2}", 2, 7);
    Bench.faults("x = {[1] 2}", 2, 9);
    Bench.faults("x = {a.b = 1}", 2, 9);
    Bench.faults("x = a:b", 2, 7);
    Bench.faults("x = a:b.c()", 2, 7);
    Bench.faults("x = a.1", 2, 6);
    Bench.faults("f(1,)", 2, 4);
    Bench.faults("f(1 2)", 2, 4);
    Bench.faults("x = 1 +", 2, 7);
    Bench.faults("x = not", 2, 7);
    Bench.faults("x = and 1", 2, 4);
    Bench.faults("x = function f() end", 2, 13);
    Bench.faults("x = break", 2, 4);
    Bench.compiles(";;; f() ; g{} ; h'x' ; a.b[1]:c(2){3}'4'.d = 1, 2 ; return ;");
    Bench.compiles("return {1, 2; a = 3, [4] = 5; function() end, }");
    Bench.compiles("do break_ = 1 end f\n(g)\n(h)()");
    Bench.gives("local f = function(x) return function(y) return x, y end end return f\n(1)\n(2)",
        "1, 2");
  }

  private static void strengths() {
    Bench.gives("return 1 or 2 and nil", "1");
    Bench.gives("return false and 1 or 2", "2");
    Bench.gives("return 1 < 2 and 3 > 2 == true", "true");
    Bench.gives("return 1 | 2 ~ 3 & 6", "1");
    Bench.gives("return 4 & 1 << 2", "4");
    Bench.gives("return 1 << 1 .. 2", "error \"1: arithmetic on string\"");
    Bench.gives("return 1 .. 2 + 3", "\"15\"");
    Bench.gives("return 2 + 3 * 4 - 6 // 4", "13");
    Bench.gives("return 10 - 4 - 3, 100 // 7 % 4 * 3", "3, 6");
    Bench.gives("return -3 * 2, - -3, not nil == true, -2 .. 'x'", "-6, 3, true, \"-2x\"");
    Bench.gives("return #'abc' + 1, ~5 & 7, not not 1", "4, 2, true");
    Bench.gives("local t = setmetatable({}, {__concat = function(a, b)\n"
        + "if b == 'c' then return 'd' end return 'no' end}) return t .. 'b' .. 'c'", "\"no\"");
    Bench.gives("return 2 * -3, 5 - not_ and 1", "error \"1: arithmetic on nil\"");
  }

  private static void nesting() {
    Bench.compiles(Bench.times(20, "do ") + Bench.times(20, "end "));
    Bench.faults(Bench.times(21, "do ") + Bench.times(21, "end "), 3, 60);
    Bench.faults(Bench.times(20, "do ") + ";" + Bench.times(20, " end"), 3, 60);
    // a return is none, its E stand beside the statements of its BLOCK
    Bench.compiles(Bench.times(20, "do ") + "return" + Bench.times(20, " end"));
    Bench.faults(Bench.times(20, "do ") + "return 1" + Bench.times(20, " end"), 3, 67);
    Bench.compiles(Bench.times(19, "do ") + "return 1" + Bench.times(19, " end"));
    Bench.faults(Bench.times(19, "do ") + "return (1)" + Bench.times(19, " end"), 3, 65);
    Bench.compiles(Bench.times(19, "do ") + "x()" + Bench.times(19, " end"));
    Bench.faults(Bench.times(19, "do ") + "x = 1" + Bench.times(19, " end"), 3, 61);
    Bench.faults(Bench.times(19, "do ") + "x(1)" + Bench.times(19, " end"), 3, 59);
    Bench.faults(Bench.times(19, "do ") + "if x then" + Bench.times(20, " end"), 3, 60);
    Bench.compiles("return " + Bench.times(19, "(") + "1" + Bench.times(19, ")"));
    Bench.faults("return " + Bench.times(20, "(") + "1" + Bench.times(20, ")"), 3, 27);
    Bench.compiles("x = " + Bench.times(18, "(") + "1" + Bench.times(18, ")"));
    Bench.faults("x = " + Bench.times(19, "(") + "1" + Bench.times(19, ")"), 3, 23);
    Bench.compiles("return " + Bench.times(200, "1 + ") + "1");
    Bench.compiles("return " + Bench.times(19, "1 .. ") + "1");
    Bench.faults("return " + Bench.times(20, "1 .. ") + "1", 3, 107);
    Bench.compiles("return " + Bench.times(19, "- ") + "1");
    Bench.faults("return " + Bench.times(20, "- ") + "1", 3, 47);
    Bench.compiles("return 1 or 2 and 3 < 4 | 5 ~ 6 & 7 << 8 .. 9 + 10 * 11");
    // FIELDS count, and E in them once more
    Bench.compiles("return " + Bench.times(9, "{") + "{}" + Bench.times(9, "}"));
    Bench.compiles("return " + Bench.times(9, "{") + "(1)" + Bench.times(9, "}"));
    Bench.faults("return " + Bench.times(9, "{") + "((1))" + Bench.times(9, "}"), 3, 18);
    Bench.faults("return " + Bench.times(9, "{") + "({1})" + Bench.times(9, "}"), 3, 18);
    Bench.faults("return " + Bench.times(9, "{") + "({a = 1})" + Bench.times(9, "}"), 3, 18);
    Bench.faults("x = " + Bench.times(9, "{") + "{a = 1}" + Bench.times(9, "}"), 3, 14);
    Bench.faults("x = " + Bench.times(9, "{") + "{[1] = 1}" + Bench.times(9, "}"), 3, 14);
    Bench.faults("x = " + Bench.times(9, "{") + "{1}" + Bench.times(9, "}"), 3, 14);
    // what stands in a BODY is within the E or STATEMENT that has it
    Bench.compiles(Bench.times(20, "function f() ") + Bench.times(20, "end "));
    Bench.faults(Bench.times(21, "function f() ") + Bench.times(21, "end "), 3, 260);
    Bench.compiles(Bench.times(10, "x = function() ") + Bench.times(10, "end "));
    Bench.faults(Bench.times(10, "x = function() ") + "y()" + Bench.times(10, "end "), 3, 150);
    Bench.compiles(Bench.times(20, "return function() ") + Bench.times(20, "end "));
    Bench.faults(Bench.times(20, "return function() ") + "y()" + Bench.times(20, "end "), 3, 360);
  }

  private static void numbers() {
    Bench.compiles("f(" + Bench.times(14, "1, ") + "1)");
    Bench.faults("f(" + Bench.times(15, "1, ") + "1)", 3, 47);
    Bench.faults("f(" + Bench.times(15, "1, ") + ")", 2, 47);
    Bench.faults("return " + Bench.times(15, "1, ") + "x", 3, 52);
    Bench.faults("local a = " + Bench.times(15, "1, ") + "x", 3, 55);
    Bench.faults("for a in " + Bench.times(15, "1, ") + "x do end", 3, 54);
    Bench.compiles("x = {" + Bench.times(30, "1, ") + "}");
    Bench.compiles("x = {" + Bench.times(30, "a = 1; ") + "}");
    Bench.faults("x = {" + Bench.times(30, "1, ") + "1}", 3, 95);
    Bench.faults("x = {" + Bench.times(30, "1, ") + "[1] = 1}", 3, 95);
    Bench.faults("x = {" + Bench.times(30, "1, ") + ")}", 2, 95);
    Bench.compiles(Bench.times(19, "a, ") + "b.c = 1");
    Bench.faults(Bench.times(20, "a, ") + "b.c = 1", 3, 60);
    Bench.faults(Bench.times(20, "a, ") + "= 1", 2, 60);
    Bench.compiles(Bench.times(49, "f(function() end) "));
    Bench.faults(Bench.times(49, "function f() end ") + " function g () end", 3, 845);
    Bench.compiles(Bench.times(500, "x=1 "));
    Bench.faults(Bench.times(500, "x=1 ") + ";", 3, 2000);
    Bench.faults(Bench.times(500, "x=1 ") + "break", 3, 2000);
    Bench.faults(Bench.times(500, "x=1 ") + "end", 2, 2000);
    Bench.faults(Bench.times(500, "x=1 ") + "@", 1, 2000);
    Bench.faults(Bench.times(499, "x=1 ") + "x=(", 2, 1999);
    Bench.compiles(Bench.times(500, "x=1 ") + "-- and so on");
  }

  private static void names() {
    Bench.compiles(Bench.times(50, "local a "));
    Bench.faults(Bench.times(50, "local a ") + "local b", 3, 406);
    Bench.faults("do " + Bench.times(50, "local a ") + "end for b = 1, 2 do end", 3, 411);
    Bench.faults(Bench.times(50, "local a ") + "for b in c do end", 3, 404);
    Bench.faults(Bench.times(50, "local a ") + "local function b() end", 3, 415);
    Bench.compiles(Bench.times(50, "local a ") + "function f(b) local c end");
    Bench.compiles("function f(" + Bench.times(49, "a, ") + "a) end");
    Bench.faults("function f(" + Bench.times(50, "a, ") + "a) end", 3, 161);
    Bench.faults("function f:g(" + Bench.times(49, "a, ") + "a) end", 3, 160);
    StringBuilder many = new StringBuilder();
    StringBuilder used = new StringBuilder();
    for (int i = 10; i < 41; i++) {
      many.append("local a").append(i).append(' ');
      if (i < 40) {
        used.append("x=a").append(i).append(' ');
      }
    }
    String head = many + "function f() ";
    Bench.compiles(head + used + "x=a10 x=b end");
    Bench.faults(head + used + "x=a40 end", 3, head.length() + 30 * 6 + 2);
    String deep = head + "function g() ";
    Bench.faults(deep + used + "a40.b() end end", 3, deep.length() + 30 * 6);
    Bench.faults(deep + used + "function a40.b() end end end", 3, deep.length() + 30 * 6 + 9);
    // from where on a local is known
    Bench.gives("x = 1 local x = x return x", "1");
    Bench.gives("local x = 5 local x, y = 6, x return x, y", "6, 5");
    Bench.gives("local f = function() return f end return f()", "nil");
    Bench.gives("local function f(n) if n == 0 then return f end return f(n - 1) end "
        + "return f(3) == f", "true");
    Bench.gives("local i = 3 for i = i, i + 1 do G = i end return i, G", "3, 4");
    Bench.gives("local k = {7} for k, v in ipairs(k) do G = v end return #k, G", "1, 7");
    Bench.gives("repeat local done = true until done return done", "nil");
    Bench.gives("local a = 1 do local a = 2 end return a", "1");
    Bench.gives("local function f(a, a) return a end return f(1, 2)", "2");
    Bench.gives("local a = 1 local function f() local b = a local a = 2 return b, a end return f()",
        "1, 2");
    Bench.gives("x = 1 local function f() return x end local x = 2 return f(), x", "1, 2");
  }

  private static void breaksAndDots() {
    Bench.faults("break", 4, 0);
    Bench.faults("if x then break end", 4, 10);
    Bench.faults("while x do f(function() break end) end", 4, 24);
    Bench.compiles("while x do if y then break end break x() end");
    Bench.compiles("repeat break until x for i = 1, 2 do break end for k in f do break end");
    Bench.faults("repeat until x break", 4, 15);
    Bench.gives("return ...", "");
    Bench.faults("function f() return ... end", 4, 20);
    Bench.faults("function f(...) return function() return ... end end", 4, 41);
    Bench.faults("local f = function(a) g(1, ...) end", 4, 27);
    Bench.faults("return " + Bench.times(20, "(") + "...", 3, 27);
    Bench.faults("function f() return 1 ... end", 2, 22);
    Bench.faults("f = function() x(" + Bench.times(15, "1, ") + "...) end", 3, 62);
  }

  private static void leastFault() {
    Bench.faults("break @", 4, 0);
    Bench.faults("x = ) @", 2, 4);
    Bench.faults("x = 1 @ )", 1, 6);
    Bench.faults("function f() return ... @", 4, 20);
    Bench.faults("x = {a @", 1, 7);
    Bench.faults("f(" + Bench.times(15, "1, ") + "@", 1, 47);
    Bench.faults("return " + Bench.times(20, "(") + "@", 1, 27);
    Bench.faults("return " + Bench.times(20, "(") + ")", 2, 27);
    Bench.faults(Bench.times(20, "do ") + "end", 2, 63);
  }
}
