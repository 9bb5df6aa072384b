/** Part 6 of the terms: what is reached, weak tables, last acts; promises 15 to 17 of what is gone. */
public final class GatheringTest {
  private static final String WEAK = "local wk, wv, wb = setmetatable({}, {__mode = 'k'}), "
      + "setmetatable({}, {__mode = 'v'}), setmetatable({}, {__mode = 'kv'}) ";
  private static final String SIZE = "local function size(t) local n = 0 for k in pairs(t) do n = n + 1 "
      + "end return n end ";
  private static final String ACT = "local function act(name, more) return setmetatable({name = name}, "
      + "{__gc = more or function(o) print(o.name) end}) end ";

  public static void main(String[] args) {
    counting();
    reached();
    needed();
    parts();
    weakKeys();
    weakValues();
    places();
    lastActs();
    actsInActs();
    seenFromOutside();
    Bench.end("GatheringTest");
  }

  private static void counting() {
    Bench.gives("return collect()", "0");
    Bench.gives("local t = {} t = nil return collect()", "1");
    Bench.gives("local t = {{}, {}} t = nil return collect(), collect()", "3, 0");
    Bench.gives("local t = {} t.t = t t = nil return collect()", "1");
    Bench.gives("part.new(function() end) return collect()", "2");
    Bench.gives("list.x = {} text.y = {} z = {} list.x = nil return collect()", "1");
    Bench.gives("list = nil text = nil part = nil return collect()", "0");
    Bench.gives("return collect({}), collect({}, {}, {})", "1, 3");
    Bench.gives("return #tostring(collect({}))", "1");
  }

  private static void reached() {
    Bench.gives("local t = {x = {{}}} return collect()", "0");
    Bench.gives("local t = {[{}] = 1} return collect()", "0");
    Bench.gives("local t = setmetatable({}, {__index = {}}) return collect()", "0");
    Bench.gives("do local t = {} end return collect()", "1");
    Bench.gives("do local t = {} return collect() end", "0");
    Bench.gives("local t = {} local t = 1 return collect()", "0");
    Bench.gives("for i = 1, 1 do local t = {} end return collect()", "1");
    Bench.gives("while true do local t = {} break end return collect()", "1");
    Bench.gives("local n repeat local t = {} n = collect() until true return n, collect()", "0, 1");
    Bench.gives("local n repeat local t = {} until (function() n = collect() return true end)() "
        + "return n, collect()", "0, 2");
    Bench.gives("local t = {} local function f() return t end t = nil return collect()", "1");
    Bench.gives("local f do local t = {} f = function() return t end end return collect()", "0");
    Bench.gives("local f do local t, u = {}, {} f = function() return t end end return collect()",
        "1");
    Bench.gives("local f do local t = {} f = function() return function() return t end end end "
        + "local n = collect() f = f() return n, collect()", "0, 1");
    Bench.gives("local f do local t = {} f = function() t = nil end end f() return collect()", "1");
    Bench.gives("local function f(a, b) return collect() end return f({}, {}, {})", "1");
    Bench.gives("local function f(...) return collect() end return f({}, {}, {})", "0");
    Bench.gives("local function f(a, ...) a = nil return collect() end return f({}, {}, {})", "1");
    Bench.gives("return (function() return collect() end)()", "0");
    Bench.gives("local x = {} x = collect() return x", "0");
    Bench.gives("local x = {} local x = collect() return x", "0");
    Bench.gives("local fs = {} for i = 1, 3 do local t = {} fs[i] = function() return t end end "
        + "fs[2] = nil return collect()", "2");
  }

  private static void needed() {
    Bench.gives("local function f(...) return ... end local a, n = f({}, collect()) return n", "0");
    Bench.gives("local t = {{}, collect()} return t[2]", "0");
    Bench.gives("local t = {[{}] = collect()} local k, n = next(t) return n", "0");
    Bench.gives("local n = {} == collect() and 1 or collect() return n", "1");
    Bench.gives("return ({} and collect())", "1");
    Bench.gives("return ({} == nil) == (collect() == 1)", "false");
    Bench.gives("local n local t = setmetatable({}, {__index = function() n = collect() end}) "
        + "local x = ({t, {}})[1].y return n", "2");
    Bench.gives("local m = {__add = function() return collect() end} "
        + "return setmetatable({}, m) + 1, setmetatable({}, m) + {}", "1, 2");
    Bench.gives("local m = {__add = function(a, b) return collect() end} "
        + "return setmetatable({}, m) + 1, setmetatable({}, m) + {}", "0, 1");
    Bench.gives("local n local m = {__newindex = function() n = collect() end} "
        + "setmetatable({}, m).x = {} return n", "2");
    Bench.gives("local n local m = {__newindex = function(t, k, v) n = collect() end} "
        + "setmetatable({}, m).x = {} return n", "0");
    Bench.gives("local n = '' local m = {__newindex = function() n = n .. collect() end} "
        + "local function t() return setmetatable({}, m) end "
        + "t().x, t().x, t().x = {}, {}, {} return n", "\"222\"");
    Bench.gives("local o = {f = function(self, x) return x end} "
        + "return ({o})[1]:f(collect()), ({f = o.f}):f(collect())", "1, 0");
    Bench.gives("local n for k in function(s, v) if not v then return {} end n = collect() end, {} do "
        + "end return n", "0");
    Bench.gives("local n local function f(s, v) if v then n = collect() return end "
        + "return {}, {}, {} end for a, b, c in f do end return n", "2");
    Bench.gives("local n for a in function(s, v) if not v then return {} end end, {} do a = nil "
        + "n = collect() end return n", "0");
    Bench.gives("local n for a, b in function(s, v) if not v then return {}, {} end end do b = nil "
        + "n = collect() end return n", "1");
    Bench.gives("return pcall(collect, {})", "true, 1");
    Bench.gives("return pcall(function(a) return collect() end, {}, {})", "true, 1");
    Bench.gives("local x = {pcall(function() return collect() end)} return x[2]", "0");
    Bench.gives("local t = setmetatable({}, {__call = collect}) local f = t t = nil return f()", "0");
    Bench.gives("return setmetatable({}, {__call = collect})()", "2");
    Bench.gives("return {}, collect()", "table 4, 0");
  }

  private static void parts() {
    Bench.gives("local p = part.new(function() local t = {} part.stop() return t end) part.go(p) "
        + "local n = collect() part.go(p) return n, collect()", "0, 2");
    Bench.gives("local p = part.new(function(...) part.stop() end) part.go(p, {}, {}) "
        + "local n = collect() p = nil return n, collect()", "0, 4");
    Bench.gives("local p = part.new(function() part.stop() end) part.go(p) part.go(p) "
        + "return collect(), collect()", "1, 0");
    Bench.gives("local p = part.new(function() return collect() end) local _, n = part.go(p) "
        + "p = nil return n, collect()", "0, 2");
    Bench.gives("return part.go(part.new(function() return collect() end))", "true, 0");
    Bench.gives("return part.go(part.new(collect), {}, {})", "true, 2");
    Bench.gives("local p = part.new(function(x) local y = part.stop() return collect() end) "
        + "part.go(p, {}) local _, n = part.go(p, {}, {}) return n", "1");
    Bench.gives("local p = part.new(function() local q = part.new(function() local t = {} "
        + "part.stop() end) part.go(q) part.stop() end) part.go(p) local n = collect() p = nil "
        + "return n, collect()", "0, 5");
    Bench.gives("local p = part.new(function(t) part.stop({}, t) end) "
        + "return select('#', part.go(p, {})), collect()", "3, 1");
    TableTongue x = Bench.ran("local p = part.new(print) p = nil collect() return part.running()");
    Bench.due("a part that is gone", x.object(4, 0), 0);
    Bench.due("its state", x.object(4, 1), 0);
  }

  private static void weakKeys() {
    Bench.gives(WEAK + SIZE + "wk[{}] = 1 wk.x = {} wk[1] = 2 return collect(), size(wk), wk.x",
        "1, 2, table 12");
    Bench.gives(WEAK + SIZE + "local k = {} wk[k] = {} local n = collect() k = nil "
        + "return n, collect(), size(wk)", "0, 2, 0");
    Bench.gives(WEAK + SIZE + "local k = {} wk[k] = k k = nil return collect(), size(wk)", "1, 0");
    Bench.gives(WEAK + SIZE + "local a, b, c = {}, {}, {} wk[a] = b wk[b] = c wk[c] = {} b, c = nil "
        + "local n = collect() a = nil return n, size(wk), collect(), size(wk)", "0, 3, 4, 0");
    Bench.gives(WEAK + SIZE + "local other = setmetatable({}, getmetatable(wk)) local a = {} "
        + "wk[a] = {} other[wk[a]] = {} local n = collect() a = nil return n, collect(), "
        + "size(wk), size(other)", "0, 3, 0, 0");
    Bench.gives(WEAK + "wk[print] = {} wk[part.running()] = {} wk[true] = {} return collect()", "0");
    Bench.gives(WEAK + SIZE + "wk[function() end] = 1 wk[part.new(print)] = 2 "
        + "return collect(), size(wk)", "2, 0");
    Bench.gives("local m = {__mode = 'xkx'} local t = setmetatable({}, m) t[{}] = 1 local n = "
        + "collect() t[{}] = 2 m.__mode = 5 return n, collect(), next(t) == nil", "1, 0, false");
  }

  private static void weakValues() {
    Bench.gives(WEAK + SIZE + "wv[1] = {} wv[2] = 'a' wv[3] = print wv.x = {} "
        + "return #wv, collect(), size(wv), #wv", "3, 2, 2, 0");
    Bench.gives(WEAK + SIZE + "wv[{}] = 1 wv[{}] = {} local n = collect() return n, size(wv)",
        "1, 1");
    Bench.gives(WEAK + SIZE + "local v = {} wv[1] = v wv[v] = v local n = collect() v = nil "
        + "return n, collect(), size(wv), collect()", "0, 0, 2, 0");
    Bench.gives(WEAK + SIZE + "wb[{}] = 1 wb[1] = {} wb[2] = 3 local k = {} wb[k] = {} "
        + "return collect(), size(wb)", "3, 1");
    Bench.gives(WEAK + SIZE + "local k = {} wb[k] = k local n = collect() k = nil "
        + "return n, size(wb), collect(), size(wb)", "0, 1, 1, 0");
  }

  private static void places() {
    TableTongue x = Bench.ran("local t = {a = 1, b = 2, c = 3} t.b = nil G = 1 G = nil "
        + "local n = collect() return t");
    Bench.due("places", x.count(2), 36);
    Bench.due("key of place 1", x.place(4, 1, 2), 1);
    Bench.due("value of place 1", x.place(4, 1, 3), 3);
    Bench.due("no place 2", () -> x.place(4, 2, 0), "index");
    TableTongue y = Bench.ran("local t = {a = 1, b = 2, c = 3} t.b = nil G = 1 G = nil");
    Bench.due("places", y.count(2), 38);
    TableTongue z = Bench.ran("local t = {a = 1, b = {1, 2}} t = nil collect()");
    Bench.due("places of what is gone", z.count(2), 34);
    Bench.due("gone", z.object(4, 0), 0);
    Bench.due("its length", z.object(5, 1), 0);
    Bench.due("its place", () -> z.place(5, 0, 0), "index");
    Bench.due("made", z.count(0), 5);
    Bench.due("there", z.count(1), 3);
    Bench.gives("local t = {a = 1, b = 2} t.a = nil collect() t.a = 3 return next(t)", "\"b\", 2");
    Bench.gives("local t = {a = 1, b = 2} t.a = nil t.a = 3 return next(t)", "\"a\", 3");
    Bench.gives("local t = {1, 2, 3} t[2] = nil collect() t[2] = 5 local s = '' "
        + "for k in pairs(t) do s = s .. k end return s, #t", "\"132\", 3");
  }

  private static void lastActs() {
    Bench.prints(ACT + "act('a') act('b') local c = act('c') print(collect()) c = nil "
        + "print(collect()) print(collect())", "b\na\n0\nc\n6\n3\n");
    Bench.prints(ACT + "local t = {} setmetatable(t, {__gc = function() print('x') end}) "
        + "setmetatable(t, nil) t = nil print(collect())", "2\n");
    Bench.prints("local m = {} local t = setmetatable({}, m) m.__gc = function() print('x') end "
        + "t = nil print(collect())", "1\n");
    Bench.prints("local m = {__gc = false} local t = setmetatable({}, m) "
        + "m.__gc = function() print('x') end t = nil print(collect(), collect())", "x\n0 1\n");
    Bench.prints("local m = {__gc = function(o) print(o.n) end} local a, b = {n = 1}, {n = 2} "
        + "setmetatable(a, m) setmetatable(b, m) setmetatable(a, m) a, b = nil collect()", "2\n1\n");
    Bench.prints(ACT + "act('a', function(o) G = o end) collect() print(G.name, collect()) G = nil "
        + "print(collect())", "a 0\n3\n");
    Bench.prints(ACT + WEAK + "local x = act('x', function(o) print(wk[o], wv[1] == nil) end) "
        + "wk[x] = 5 wv[1] = x x = nil collect() collect() print(next(wk))", "5 true\nnil\n");
    Bench.prints(ACT + "local x = act('x') x.y = {z = act('y')} x = nil print(collect())",
        "y\nx\n0\n");
    Bench.prints("local t = setmetatable({}, {__gc = print}) t = nil print(collect())",
        "table: 4\n0\n");
    Bench.prints("setmetatable({}, {__gc = setmetatable({}, {__call = print})}) print(collect())",
        "0\n");
    Bench.prints(ACT + "act('e', function(o) error('x') end) act('f') print(collect())",
        "f\n0\n");
    Bench.prints("setmetatable({}, {__gc = text.sub}) setmetatable({}, {__gc = error}) "
        + "print(collect())", "0\n");
    Bench.prints(ACT + "act('s', function() print(pcall(part.stop)) end)\ncollect()",
        "false 1: stop outside a part\n");
    Bench.prints(ACT + "local p = part.new(function() act('s', function() print(pcall(part.stop)) "
        + "end)\ncollect() end) part.go(p)", "false 1: stop outside a part\n");
    Bench.prints(ACT + "local q = part.new(function() part.stop(7) print('on') end) "
        + "act('s', function() print(part.go(q)) end) collect() part.go(q)", "true 7\non\n");
    TableTongue x = Bench.ran("local m = {__gc = function() error('x') end} setmetatable({}, m) "
        + "setmetatable({}, {__gc = print}) setmetatable({}, {__gc = 5}) local k = "
        + "setmetatable({}, {__gc = 1}) collect()");
    Bench.due("acts called", x.count(4), 2);
    Bench.due("marked", x.count(5), 1);
  }

  private static void actsInActs() {
    Bench.prints(ACT + "act('a', function(o) print('a', collect()) end) "
        + "act('b', function(o) print('b', collect()) end) print(collect())",
        "b 0\na 3\n0\n");
    Bench.prints(ACT + "local n = 0 act('r', function(o) n = n + 1 "
        + "if n < 3 then setmetatable(o, getmetatable(o)) end end) "
        + "for i = 1, 5 do print(collect(), n) end", "0 1\n0 2\n0 3\n3 3\n0 3\n");
    Bench.prints(ACT + "act('a', function(o) act('c') print('a', collect()) end) act('b') "
        + "print(collect())", "b\nc\na 3\n0\n");
    Bench.prints(ACT + WEAK + "local a, b = act('a', function(o) print('a', wk[o]) end), act('b', "
        + "function(o) print(collect(), next(wk) ~= nil) end) wk[a] = 1 a, b = nil collect()",
        "0 true\na 1\n");
    Bench.gives("local function f(n) if n == 0 then return collect() end return f(n - 1) end "
        + "return pcall(f, 16)", "true, 0");
    Bench.gives("local t = {} t = nil local function f(n) if n == 0 then return collect() end "
        + "return f(n - 1) end local a, b = pcall(f, 17) return a, b, collect()",
        "false, \"1: stack overflow\", 1");
    TableTongue x = Bench.ran("setmetatable({}, {__gc = function() G = 1 end}) "
        + "local function f(n) if n == 0 then return collect() end return f(n - 1) end "
        + "return pcall(f, 16)");
    Bench.due("its act is one too deep", Bench.results(x), "true, 0");
    Bench.due("it was called", x.count(4), 1);
    Bench.due("the error's string", x.count(3), 1);
  }

  private static void seenFromOutside() {
    TableTongue x = Bench.compiled("local m = {__gc = function(o) x = 1 end} setmetatable({}, m) "
        + "local t = {} t = nil\ncollect() return 7");
    // 0 entered, local, call, local, =, call; then the act is entered
    for (int i = 0; i < 5; i++) {
      x.run(1);
    }
    Bench.due("marked", x.count(5), 1);
    Bench.due("there", x.count(1), 7);
    x.run(2);
    Bench.due("marked no more", x.count(5), 0);
    Bench.due("there", x.count(1), 6);
    Bench.due("called", x.count(4), 1);
    Bench.due("gone", x.object(7, 0), 0);
    Bench.due("still there", x.object(6, 0), 4);
    Bench.due("the rest", x.run(3000), 0);
    Bench.due("steps", x.steps(), 9);
  }
}
