/** Parts 3 and 4 of the terms: values, events, calls, errors with their lines. */
public final class ActsTest {
  public static void main(String[] args) {
    wholes();
    truths();
    texts();
    comparing();
    tables();
    reading();
    writing();
    calling();
    manyValues();
    eventsOfOperators();
    statements();
    loops();
    lines();
    depth();
    Bench.end("ActsTest");
  }

  private static void error(String text, String words) {
    Bench.gives(text, "error \"" + words + "\"");
  }

  private static void wholes() {
    Bench.gives("return 0x7fffffffffffffff + 1, 0x8000000000000000 - 1, 0x7fffffffffffffff * 2",
        "-9223372036854775808, 9223372036854775807, -2");
    Bench.gives("return 7 // 2, -7 // 2, 7 // -2, -7 // -2", "3, -4, -4, 3");
    Bench.gives("return 7 % 3, -7 % 3, 7 % -3, -7 % -3, 6 % -3", "1, 2, -2, -1, 0");
    Bench.gives("return 0x8000000000000000 // -1, 0x8000000000000000 % -1",
        "-9223372036854775808, 0");
    error("return 1 // 0", "1: division by zero");
    error("return 1 %\n0", "1: division by zero");
    Bench.gives("return 1 << 63, 1 << 64, 1 << -1, -1 >> 1, -1 >> 64, -1 >> -4, -1 << -63",
        "-9223372036854775808, 0, 0, 9223372036854775807, 0, -16, 1");
    Bench.gives("return 1 << 0x8000000000000000, 1 >> 0x8000000000000000, -1 >> 63, 1 << 0",
        "0, 0, 1, 1");
    Bench.gives("return - 0x8000000000000000, ~5, -(-3)", "-9223372036854775808, -6, 3");
    error("return nil + 1", "1: arithmetic on nil");
    error("return 1 - true", "1: arithmetic on boolean");
    error("return '1' * {}", "1: arithmetic on string");
    error("return 1 & print", "1: arithmetic on function");
    error("return -part.running()", "1: arithmetic on thread");
    error("return ~{}", "1: arithmetic on table");
    error("return '5' // 0", "1: arithmetic on string");
  }

  private static void truths() {
    Bench.gives("return nil and 1, false and 1, 0 and 1, '' and 1", "nil, false, 1, 1");
    Bench.gives("return nil or 1, false or nil, 0 or 1", "1, nil, 0");
    Bench.gives("return not nil, not 0, not {}, not false", "true, false, false, true");
    Bench.gives("local n = 0 local function f() n = n + 1 return n end "
        + "local a = false and f() local b = 1 or f() return n", "0");
    Bench.gives("return (nil and x.y.z), (1 or x.y.z)", "nil, 1");
  }

  private static void texts() {
    Bench.gives("return 'a' .. 'b', 1 .. 'x', -5 .. 7, '' .. ''", "\"ab\", \"1x\", \"-57\", \"\"");
    Bench.gives("return 0x8000000000000000 .. 0", "\"-92233720368547758080\"");
    Bench.gives("return #(text.rep('ab', 500) .. '')", "1000");
    error("return text.rep('ab', 500) .. 'c'", "1: too long");
    error("return 'a' .. nil", "1: concatenation of nil");
    error("return true .. {}", "1: concatenation of boolean");
    error("return 1 .. {}", "1: concatenation of table");
    Bench.gives("return #'', #'a\\0b', #{}, #{1, nil, 3}, #{nil, 2}", "0, 3, 0, 1, 0");
    error("return #5", "1: length of number");
    error("return #nil", "1: length of nil");
  }

  private static void comparing() {
    Bench.gives("return 1 < 2, 2 <= 2, -1 > 0, 0x8000000000000000 < 0, 3 >= 4",
        "true, true, false, true, false");
    Bench.gives("return 'a' < 'b', 'a' < 'ab', '' <= '', '\\200' > 'z', 'b' >= 'ab', 'ab' < 'a'",
        "true, true, true, true, true, false");
    Bench.gives("return 1 == 1, 1 == '1', nil == false, 'a' .. 'b' == 'ab', {} == {}",
        "true, false, false, true, false");
    Bench.gives("local t = {} return t == t, t ~= t, print == print, print == type, list ~= text",
        "true, false, true, false, true");
    error("return 1 < '1'", "1: comparison of number with string");
    error("return 1 > '1'", "1: comparison of string with number");
    error("return {} <= nil", "1: comparison of table with nil");
    error("return {} >= nil", "1: comparison of nil with table");
    error("return true < true", "1: comparison of boolean with boolean");
    error("return nil > {}", "1: comparison of table with nil");
    Bench.prints("local function f(x) print(x) return x end local x = f(1) > f(2) x = f(3) < f(4)",
        "1\n2\n3\n4\n");
  }

  private static void tables() {
    Bench.prints("local t = {1, 2, x = 5, [2] = 7, 8, ['y'] = 9, [true] = 0} "
        + "for k, v in pairs(t) do print(k, v) end", "1 1\n2 7\nx 5\n3 8\ny 9\ntrue 0\n");
    Bench.prints("local t = {[2] = 7, 1, 2} for k, v in next, t do print(k, v) end", "2 2\n1 1\n");
    Bench.gives("local t = {[1] = 5, nil} return t[1], #t, next(t)", "nil, 0, nil");
    Bench.gives("local function f() return 1, 2, 3 end "
        + "return #{f()}, #{f(), f()}, #{f(), 1}, #{(f())}, #{f(), nil}, #{x = f()}, #{f(),}",
        "3, 4, 2, 1, 1, 0, 3");
    Bench.gives("local function f(...) return {...}, {..., 1}, {n = ...} end "
        + "local a, b, c = f(4, 5) return #a, #b, c.n, b[1]", "2, 2, 4, 4");
    error("local t = {\n[\nnil] = 1}", "2: index is nil");
    error("local t = {[nil] = nil}", "1: index is nil");
    Bench.gives("local t = {} t.a = 1 t.b = 2 t.a = nil t.c = 3 t.a = 4 local k = next(t) return k",
        "\"a\"");
    Bench.gives("local t = {} t[1] = 1 t[3] = 3 local a = #t t[2] = 2 local b = #t t[1] = nil "
        + "local c = #t t[0] = 1 t[1] = 0 return a, b, c, #t", "1, 3, 0, 3");
    Bench.gives("local t = {} t[0x7fffffffffffffff] = 1 t[-1] = 2 t[0] = 3 t['1'] = 4 return #t, "
        + "t[1], t[-1], t['1']", "0, nil, 2, 4");
    TableTongue x = Bench.ran("local t = {a = 1, b = {}} t.a = nil t.c = print t[5] = 'abc' "
        + "t[part.running()] = false return t");
    Bench.due("kind of key", x.place(4, 0, 0), 0);
    Bench.due("kind of value", x.place(4, 0, 1), 0);
    Bench.due("key", x.place(4, 0, 2), 0);
    Bench.due("value", x.place(4, 0, 3), 0);
    Bench.due("key b", x.place(4, 1, 0), 3);
    Bench.due("its length", x.place(4, 1, 2), 1);
    Bench.due("value of b", x.place(4, 1, 1), 4);
    Bench.due("its number", x.place(4, 1, 3), 5);
    Bench.due("value of c", x.place(4, 2, 1), 5);
    Bench.due("built in", x.place(4, 2, 3), -1);
    Bench.due("key 5", x.place(4, 3, 2), 5);
    Bench.due("value of 5", x.place(4, 3, 3), 3);
    Bench.due("key PART 0", x.place(4, 4, 0), 6);
    Bench.due("its number", x.place(4, 4, 2), 0);
    Bench.due("false", x.place(4, 4, 1), 1);
    Bench.due("false", x.place(4, 4, 3), 0);
    Bench.due("no place", () -> x.place(4, 5, 0), "index");
    Bench.due("no place", () -> x.place(4, -1, 0), "index");
    Bench.due("no what", () -> x.place(4, 0, 4), "index");
    Bench.due("no what", () -> x.place(4, 0, -1), "index");
    Bench.due("no object", () -> x.place(6, 0, 0), "index");
    Bench.due("no object", () -> x.place(0, 0, 0), "index");
    Bench.due("no object", () -> x.object(6, 0), "index");
    Bench.due("no object", () -> x.object(0, 0), "index");
    Bench.due("no what", () -> x.object(4, 2), "index");
    Bench.due("no what", () -> x.object(4, -1), "index");
    Bench.due("list", x.place(1, 4, 2), 6);
    Bench.due("no place of list", () -> x.place(1, 5, 2), "index");
  }

  private static final String META = "local function meta(t, m) return setmetatable(t, m) end ";

  private static String chain(int n, String event) {
    return "local t = {} local last = t for i = 1, " + n + " do "
        + "t = setmetatable({}, {" + event + " = t}) end ";
  }

  private static void reading() {
    Bench.gives(META + "local t = meta({a = 1}, {__index = {b = 2}}) return t.a, t.b, t.c",
        "1, 2, nil");
    Bench.gives(META + "local t = meta({}, {__index = function(t, k) return k, 2 end}) "
        + "return t.x, (t[5]), t[nil]", "\"x\", 5, nil");
    Bench.gives(META + "local h = meta({}, {__index = function(v, k) return v end}) "
        + "local t = meta({}, {__index = h}) return t.x == h", "true");
    Bench.gives(META + "local t = meta({}, {__index = function() end}) return t.x", "nil");
    Bench.gives(META + "local t = meta({y = 1}, {__index = rawlen}) return t.x", "0");
    error("return x.y", "1: index of nil");
    error("local x = 5 return x[1]", "1: index of number");
    error("return ('a').x", "1: index of string");
    error("local s = 'a' s:x()", "1: index of string");
    error(META + "return meta({}, {__index = false}).x", "1: index of boolean");
    error(META + "return meta({}, {__index = 'abc'}).x", "1: index of string");
    Bench.gives(chain(19, "__index") + "last.x = 7 return t.x", "7");
    error(chain(20, "__index") + "last.x = 7 return t.x", "1: loop");
    Bench.gives(chain(19, "__index") + "return t.x", "nil");
    error("local t = {} setmetatable(t, {__index = t}) return t.x", "1: loop");
    Bench.gives("local m = setmetatable({}, {__index = {__index = {x = 1}}}) "
        + "return setmetatable({}, m).x", "nil");
  }

  private static void writing() {
    Bench.gives(META + "local u = {} local t = meta({a = 1}, {__newindex = u}) t.a = 2 t.b = 3 "
        + "return t.a, t.b, u.a, u.b", "2, nil, nil, 3");
    Bench.gives(META + "local n local t = meta({}, {__newindex = function(...) n = select('#', ...) "
        + "rawset(...) end}) t.x = 5 t.x = 6 return n, t.x", "3, 6");
    Bench.gives(META + "local k = 1 local t = meta({}, {__newindex = function(t, q) k = q end}) "
        + "t[nil] = 1 return k", "nil");
    Bench.gives(META + "local n = 0 local t = meta({x = 1}, {__newindex = function() n = n + 1 end}) "
        + "t.x = nil t.x = 2 t.x = 3 return n, t.x", "2, nil");
    error("local t = {} t[nil] = 1", "1: index is nil");
    error("local t = {} t[nil] = nil", "1: index is nil");
    error("local x x.y = 1", "1: index of nil");
    error("('a').x = 1", "1: index of string");
    error(META + "meta({}, {__newindex = 5}).x = 1", "1: index of number");
    Bench.gives(chain(19, "__newindex") + "t.x = 7 return last.x", "7");
    error(chain(20, "__newindex") + "t.x = 7", "1: loop");
    Bench.gives("local t = {} t.x = nil return next(t)", "nil");
    Bench.due("no place without a pair", Bench.ran("local t = {} t.x = nil").count(2), 34);
  }

  private static void calling() {
    error("x()", "1: call of nil");
    error("local t = {} t()", "1: call of table");
    error("('a')()", "1: call of string");
    error("(5)()", "1: call of number");
    Bench.gives(META + "local t = meta({}, {__call = function(...) return ... end}) "
        + "return select('#', t(1, nil)), t(5) == t, select(2, t(7, 8))", "3, true, 7, 8");
    Bench.gives(META + "local t = meta({}, {__call = rawlen}) return t()", "0");
    Bench.gives("local f = function(...) return select('#', ...) end local t = f "
        + "for i = 1, 19 do t = setmetatable({}, {__call = t}) end return t(1)", "20");
    error("local f = function(...) return select('#', ...) end local t = f "
        + "for i = 1, 20 do t = setmetatable({}, {__call = t}) end return t(1)", "1: loop");
    error("local t = {} setmetatable(t, {__call = t}) t()", "1: loop");
    error(META + "meta({}, {__call = 5})()", "1: call of number");
    error(META + "meta({}, {__call = false})()", "1: call of boolean");
    Bench.gives("local o = {n = 1} function o:add(k) self.n = self.n + (k or 10) return self end "
        + "return o:add(2):add().n", "13");
    Bench.gives("local o = {} function o.f(...) return select('#', ...), (...) end "
        + "local a, b = o:f(1, 2) return a, b == o", "3, true");
    Bench.gives("local function f(...) return ... end return f 'a', f {} == nil, f{1}[1]",
        "\"a\", false, 1");
    Bench.gives("local function f(a, b) return b, a end return f(1), f(1, 2, 3)", "nil, 2, 1");
    Bench.gives("local function f(a, ...) local x, y = ... return a, x, y, select('#', ...) end "
        + "return f(1, 2, 3, 4)", "1, 2, 3, 3");
    Bench.gives("local function f() return 1, 2 end return (f()), f()", "1, 1, 2");
    Bench.gives("local function f() end local function g(...) return select('#', ...) end "
        + "return g(f()), g(f(), f()), g((f()))", "0, 1, 1");
    Bench.gives("local n = 0 local function c() n = n + 1 return n end local a, b = c(), c() "
        + "return function() return a end, b", "function 5, 2");
    Bench.gives("local fs = {} for i = 1, 3 do fs[i] = {get = function() return i end, "
        + "set = function(x) i = x end} end fs[1].set(9) return fs[1].get(), fs[2].get()", "9, 2");
    Bench.gives("local fs = {} local j = 0 while j < 2 do j = j + 1 local x = j "
        + "fs[j] = function() x = x + 1 return x end end return fs[1](), fs[1](), fs[2]()",
        "2, 3, 3");
  }

  private static void manyValues() {
    String thirty = Bench.times(29, "1, ") + "1";
    String make = "local t = {" + thirty + "} local function all() return list.unpack(t) end ";
    Bench.gives(make + "return select('#', all())", "error \"1: too many values\"");
    Bench.gives(make + "local function f(...) return #{...} end return f(all())", "30");
    error(make + "local function f(...) return #{...} end return f(1,\nall())",
        "1: too many values");
    error(make + "nothing\n(1, all())", "2: too many values");
    error(make + "list:x(all())", "1: too many values");
    Bench.gives(make + "return select('#', pcall(all))",
        "error \"1: too many values\"");
    Bench.gives(make + "return #{pcall(all)}", "31");
    Bench.gives(make + "return (pcall(all))", "true");
    Bench.gives(make + "pcall(all) return 1", "1");
    error(make + "local a, b\n=\npcall(all)", "2: too many values");
    error(make + "x\n=\npcall(all)", "2: too many values");
    error(make + "for a in\npcall(all) do end", "1: too many values");
    error(make + "\nreturn\npcall(all)", "2: too many values");
    error(make + "local function f() return\n1, all() end f()", "1: too many values");
    Bench.gives(make + "local o = setmetatable({}, {__call = function(...) return #{...} end}) "
        + "return o(all())", "31");
    Bench.gives(make + "local a, b, c = all() return a, b, c", "1, 1, 1");
    Bench.gives(make + "return #{all(), all()}", "31");
    error("local t = {} for i = 1, 31 do t[i] = i end\nlocal x = list.unpack(t)",
        "2: too many values");
  }

  private static void eventsOfOperators() {
    String[] ops = {"+ add", "- sub", "* mul", "// idiv", "% mod", "& band", "| bor", "~ bxor",
        "<< shl", ">> shr", ".. concat"};
    for (String op : ops) {
      String sign = op.substring(0, op.indexOf(' '));
      String name = op.substring(op.indexOf(' ') + 1);
      String t = "local n local t = setmetatable({}, {__" + name
          + " = function(...) n = {...} return 'r', 's' end}) ";
      Bench.gives(t + "return t " + sign + " true, #n, n[1] == t, n[2]", "\"r\", 2, true, true");
      Bench.gives(t + "return 7 " + sign + " t, #n, n[1], n[2] == t", "\"r\", 2, 7, true");
      Bench.gives(t + "local u = setmetatable({}, {__" + name + " = function() end}) return u "
          + sign + " t, t " + sign + " u", "nil, \"r\"");
      error("local t = setmetatable({}, {__" + name + " = false}) return t " + sign + " 1",
          "1: call of boolean");
    }
    Bench.gives("local n local t = setmetatable({}, {__unm = function(...) n = {...} return 1, 2 end,"
        + " __bnot = function(a, b) return a == b end}) return -t, #n, n[2] == t, ~t",
        "1, 2, true, true");
    Bench.gives("local n local t = setmetatable({1, 2}, {__len = function(...) n = {...} return 'l' "
        + "end}) return #t, #n, rawlen(t)", "\"l\", 1, 2");
    Bench.gives("local n = 0 local m = {__eq = function(a, b) n = n + 1 return 1 end} "
        + "local a, b, c = setmetatable({}, m), {}, setmetatable({}, {__eq = function() end}) "
        + "return a == b, b == a, a ~= b, a == a, a == 1, c == a, a == c, n",
        "true, true, false, true, false, false, true, 4");
    Bench.gives("local m = {__lt = function(a, b) G = a return 1 end, __le = function(a, b) "
        + "return nil end} local a = setmetatable({}, m) return a < 1, G == a, a > 1, G, "
        + "a <= 1, a >= 1, 'x' < a, G, 'x' > a, G == a",
        "true, true, true, 1, false, false, true, \"x\", true, true");
    Bench.gives("local f = function() return 1 end "
        + "local a = setmetatable({}, {__lt = function(x, y) G = 'a' end}) "
        + "local b = setmetatable({}, {__lt = function(x, y) G = 'b' return 1 end}) "
        + "local x = a < b local g = G local y = a > b return x, g, y, G",
        "false, \"a\", true, \"b\"");
    error("local a = setmetatable({}, {__lt = function() end}) return a <= a",
        "1: comparison of table with table");
    Bench.gives("local t = setmetatable({}, {__add = setmetatable({}, {__call = function(h, a, b) "
        + "return b end})}) return t + 5", "5");
    Bench.gives("local t = setmetatable({}, {__add = rawequal, __concat = select}) return t + t, "
        + "t + 1, pcall(function() return t .. 1 end)",
        "true, false, false, \"1: argument 1 of select\"");
    Bench.gives("return setmetatable({}, {__unm = function() end}) ~= nil", "true");
  }

  private static void statements() {
    Bench.gives("local a, b, c = 1, 2 local d, e = 1, 2, 3 return a, b, c, d, e",
        "1, 2, nil, 1, 2");
    Bench.gives("local a, b = 1, 2 a, b = b, a return a, b", "2, 1");
    Bench.gives("local i, t = 1, {} i, t[i] = i + 1, 20 return i, t[1], t[2]", "2, 20, nil");
    Bench.gives("local a a, a, a = 1, 2, 3 return a", "1");
    Bench.prints("local t = setmetatable({}, {__newindex = function(t, k, v) print(k, v) end}) "
        + "t.a, t.b, t.c = 1, 2", "c nil\nb 2\na 1\n");
    Bench.prints("local function f(n) print(n) return {} end f(1).x, f(2)[f(3)] = f(4), f(5)",
        "1\n2\n3\n4\n5\n");
    Bench.gives("local t = {u = {}} function t.u.f(x) return x end function t.u:g(x) "
        + "return self == t.u, x end function h() return 9 end return t.u.f(1), h(), t.u:g(2)",
        "1, 9, true, 2");
    Bench.gives("x = 1 y = x x = nil return x, y", "nil, 1");
    Bench.gives("print = 5 return print", "5");
    Bench.gives("if nil then return 1 elseif false then return 2 elseif 0 then return 3 else "
        + "return 4 end", "3");
    Bench.gives("if nil then return 1 else return 4 end", "4");
    Bench.gives("do local x = 1 return end", "");
    Bench.gives("local function f() do return 1 end end return f(), (f())", "1, 1");
    error("function x.y() end", "1: index of nil");
  }

  private static void loops() {
    Bench.gives("local s = 0 for i = 1, 10, 3 do s = s * 100 + i end return s", "1040710");
    Bench.gives("local s = 0 for i = 3, 1, -1 do s = s * 10 + i end return s", "321");
    Bench.gives("local s = 0 for i = 1, 0 do s = 1 end for i = 0, 1, -1 do s = 2 end return s",
        "0");
    Bench.gives("local n = 0 for i = 9223372036854775806, 9223372036854775807 do n = n + 1 end "
        + "for i = 0x8000000000000001, 0x8000000000000000, -1 do n = n + 10 end return n", "22");
    Bench.gives("local n = 0 for i = 1, 9223372036854775807, 9223372036854775807 do n = n + 1 end "
        + "return n", "1");
    Bench.gives("local n = 0 for i = 1, 3 do i = i * 10 n = n + i end return n", "60");
    error("for i = 1, 2,\n0 do end", "1: for is zero");
    error("for i = 1,\n'2' do end", "1: for");
    error("for i = nil, 2 do end", "1: for");
    error("for i = 1, 2, {} do end", "1: for");
    Bench.gives("local n = 0 while n < 5 do n = n + 1 if n == 3 then break end end return n", "3");
    Bench.gives("local n = 0 repeat local m = n n = n + 1 until m == 2 return n", "3");
    Bench.gives("local n = 0 repeat n = n + 1 if n == 2 then break end until false return n", "2");
    Bench.gives("local n = 0 for i = 1, 3 do for j = 1, 3 do if j == 2 then break end n = n + 1 "
        + "end end return n", "3");
    Bench.gives("local r = {} for a, b, c in function(s, v) if v < 3 then return v + 1, s end end, "
        + "'s', 0 do r[#r + 1] = a .. b .. tostring(c) end return list.concat(r, ',')",
        "\"1snil,2snil,3snil\"");
    Bench.gives("local n = 0 for k in next, {1, 2, 3} do n = n + k k = nil end return n", "6");
    Bench.gives("local t = setmetatable({}, {__call = function(t, s, v) if not v then return s end "
        + "end}) local n for x in t, 5 do n = x end return n", "5");
    Bench.gives("for x in print do return 1 end return 2", "2");
    Bench.gives("for x in function() return false end do return x end", "false");
    error("for x\nin\nnil do end", "2: call of nil");
    error("for x in 5, 6 do end", "1: call of number");
    Bench.gives("local fs = {} for i = 1, 2 do local j = i fs[i] = function() j = j + 1 return j + i "
        + "end end return fs[1](), fs[1](), fs[2]()", "3, 4, 5");
  }

  private static void lines() {
    error("x\n.\ny\n.\nz = 1", "2: index of nil");
    error("x = {}\nx\n.\ny\n.\nz = 1", "5: index of nil");
    error("x = {}\nx.y\n[\n1] = 1", "3: index of nil");
    error("x = {}\nx.y\n:\nz\n(\n)", "3: index of nil");
    error("x = {}\nx\n:\nz\n(\n)", "5: call of nil");
    error("x\n(\n\n)", "2: call of nil");
    error("x\n{\n\n}", "2: call of nil");
    error("x\n'a'", "2: call of nil");
    error("x = 1\n+\nnil", "2: arithmetic on nil");
    error("x = 1 + 1\n+\n1\n..\nnil", "4: concatenation of nil");
    error("x =\n-\nnil", "2: arithmetic on nil");
    error("x =\n#\nnil", "2: length of nil");
    error("x = 1\n<\nnil", "2: comparison of number with nil");
    error("x = 1\n>=\nnil", "2: comparison of nil with number");
    error("t = {}\nt\n[\nnil\n]\n=\n1", "3: index is nil");
    error("t = {}\nfunction t\n.\nx\n:\ny()\nend", "5: index of nil");
    error("t = {x = {}} function\nt.x\n.\ny\n.\nz() end", "5: index of nil");
    error("for\ni\n=\n1,\nnil do end", "1: for");
    error("t = setmetatable({}, {__add = 5})\nx = t\n+\n1", "3: call of number");
    error("t = setmetatable({}, {__index = text.sub})\nx = t\n.\ny", "3: argument 1 of text.sub");
    error("pcall\n(print)\npairs\n(\n)", "4: argument 1 of pairs");
    Bench.gives("return pcall\n(\npairs\n)", "false, \"2: argument 1 of pairs\"");
    Bench.gives("return pcall\n(\nnil\n)", "false, \"2: call of nil\"");
    error("return\n#{} + {}", "2: arithmetic on table");
    error("function f()\nreturn nil + 1 end\nf()", "2: arithmetic on nil");
  }

  private static void depth() {
    Bench.gives("local function f(n) if n == 0 then return 0 end return 1 + f(n - 1) end return f(18)",
        "18");
    error("local function f(n) if n == 0 then return 0 end return 1 +\nf(n - 1) end return f(19)",
        "2: stack overflow");
    Bench.gives("local function f(n) if n == 0 then return 0 end return f(n - 1) end "
        + "return pcall(f, 17)", "true, 0");
    Bench.gives("local function f(n) if n == 0 then return 0 end return f(n - 1) end "
        + "return pcall(f, 18)", "false, \"1: stack overflow\"");
    Bench.gives("local t = {} local n = 0 setmetatable(t, {__index = function(t, k) n = n + 1 "
        + "return t[k] end}) local ok, e = pcall(function() return t.x end) return n, e",
        "17, \"1: stack overflow\"");
    Bench.gives("local n = 0 local function f() n = n + 1 for x in f do end end "
        + "return pcall(f), n", "false, 18");
    Bench.gives("local n = 0 local function f() n = n + 1 f() end pcall(f) n = 0 pcall(f) return n",
        "18");
    Bench.gives("local n = 0 local function f() n = n + 1 pcall(f) end f() return n", "10");
    TableTongue x = Bench.compiled("local function f() f() end f()");
    Bench.due("not entered", x.run(3000), 1);
    Bench.due("no step of it", x.steps(), 1 + 2 + 19 * 2);
  }
}
