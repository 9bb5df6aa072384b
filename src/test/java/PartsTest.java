/** Parts: how they begin, stop, go on and end; their states, depths and lines. */
public final class PartsTest {
  public static void main(String[] args) {
    goingOn();
    states();
    ending();
    anyDepth();
    wrongUse();
    depths();
    seenFromOutside();
    Bench.end("PartsTest");
  }

  private static void goingOn() {
    Bench.gives("local p = part.new(function(a, b) local c, d = part.stop(a + b, 'x') "
        + "local e = part.stop(c * d) return e, 'end' end) "
        + "local r = list.pack(part.go(p, 1, 2)) local s = list.pack(part.go(p, 5, 6)) "
        + "local u = list.pack(part.go(p, 'e')) "
        + "return r.n, r[2], r[3], s.n, s[2], u.n, u[1], u[2], u[3]",
        "3, 3, \"x\", 2, 30, 3, true, \"e\", \"end\"");
    Bench.prints("local p = part.new(function() for i = 1, 3 do part.stop(i) end end) "
        + "for ok, v in part.go, p do print(ok, v) if v == nil then break end end",
        "true 1\ntrue 2\ntrue 3\ntrue nil\n");
    Bench.gives("local a, b a = part.new(function(x) local y = x + 1 local ok, z = part.go(b, y) "
        + "return part.stop(z) end) b = part.new(function(x) x = part.stop(x * 10) return x end) "
        + "local ok, v = part.go(a, 1) local ok2, w = part.go(a, 'w') return v, w, part.go(b, 'q')",
        "20, \"w\", true, \"q\"");
    Bench.gives("local p = part.new(print) return part.go(p)", "true");
    Bench.gives("local p = part.new(part.stop) local a, b = part.go(p, 5) local c, d, e = "
        + "part.go(p, 6, 7) return a, b, c, d, e, part.state(p)", "true, 5, true, 6, 7, \"dead\"");
    Bench.gives("local p = part.new(part.running) local ok, q = part.go(p) return q == p", "true");
    Bench.gives("local p = part.new(part.stop) return part.go(p), select('#', part.go(p)), "
        + "(part.go(p))", "true, 1, false");
  }

  private static void states() {
    Bench.gives("local p p = part.new(function() local q = part.new(function() "
        + "return part.state(p), part.state(part.running()) end) return part.go(q) end) "
        + "local a = part.state(p) local _, ok, b, c = part.go(p) "
        + "return a, b, c, part.state(p), part.state(part.running())",
        "\"new\", \"normal\", \"running\", \"dead\", \"running\"");
    Bench.gives("local p = part.new(part.stop) part.go(p) return part.state(p)", "\"stopped\"");
    Bench.gives("local m = part.running() local p = part.new(function() return part.state(m), "
        + "part.running() == m end) return m == part.running(), part.go(p)",
        "true, true, \"normal\", false");
    Bench.gives("local p = part.new(print) return type(p), tostring(p), p == p, p", "\"thread\", "
        + "\"thread: 4\", true, part 4");
  }

  private static void ending() {
    Bench.gives("local p = part.new(function() error({}) end) local a, b = part.go(p) "
        + "return a, b, part.state(p)", "false, table 6, \"dead\"");
    Bench.gives("local p = part.new(function()\nlocal x = nil + 1 end) return part.go(p)",
        "false, \"2: arithmetic on nil\"");
    Bench.gives("local p = part.new(function() return 1 end) part.go(p) return part.go(p)",
        "false, \"dead part\"");
    Bench.gives("local p p = part.new(function() return part.go(p) end) return part.go(p)",
        "true, false, \"busy part\"");
    Bench.gives("return part.go(part.running())", "false, \"busy part\"");
    Bench.gives("local m = part.running() local p = part.new(function() return part.go(m) end) "
        + "return part.go(p)", "true, false, \"busy part\"");
    Bench.gives("local p = part.new(error) return part.go(p, 5)", "false, 5");
    Bench.gives("local p = part.new(function() pcall(error, 1) part.stop(2) error(3) end) "
        + "local a, b = part.go(p) local c, d = part.go(p) return a, b, c, d",
        "true, 2, false, 3");
    Bench.gives("local p = part.new(function() return pcall(function() part.stop(1) error('e') end) "
        + "end) part.go(p) return part.go(p)", "true, false, \"e\"");
  }

  private static void anyDepth() {
    Bench.gives("local function walk(n) if n > 0 then walk(n - 1) part.stop(n) walk(n - 1) end end "
        + "local p = part.new(walk) local s = '' part.go(p, 3) local ok, v = true, 1 "
        + "while v do s = s .. v ok, v = part.go(p) end return s", "\"1213121\"");
    Bench.gives("local m = {__index = function(t, k) return part.stop(k) end, "
        + "__add = function(a, b) return part.stop('add') end, "
        + "__lt = function() return part.stop('lt') end, "
        + "__newindex = function(t, k, v) part.stop(v) end, "
        + "__call = function(t, x) return part.stop('call') end} "
        + "local t = setmetatable({}, m) local p = part.new(function() local a = t.x local b = t + 1 "
        + "local c = t < t t.y = 'new' for v in t do a = v break end return a, b, c end) "
        + "local s = {} local _, v = part.go(p) s[1] = v for i = 2, 5 do _, v = part.go(p, i) "
        + "s[i] = v end local ok, a, b, c = part.go(p, 9) "
        + "return list.concat(s, ' '), a, b, c", "\"x add lt new call\", 9, 3, true");
    Bench.gives("local p = part.new(function() for k in part.stop do return k end end) part.go(p) "
        + "return part.go(p, 'k')", "true, \"k\"");
    Bench.gives("local p = part.new(function() return pcall(part.stop, 1, 2) end) "
        + "local a, b, c = part.go(p) return a, b, c, part.go(p, 7)", "true, 1, 2, true, true, 7");
    Bench.gives("local p = part.new(pcall) local a, b, c = part.go(p, part.stop, 5) "
        + "return a, b, c, part.go(p, 6)", "true, 5, nil, true, true, 6");
    Bench.gives("local t = setmetatable({}, {__unm = part.stop}) local p = part.new(function() "
        + "return -t end) local a, b, c = part.go(p) return b == t, c == t, part.go(p, 4, 5)",
        "true, true, true, 4");
  }

  private static void wrongUse() {
    Bench.gives("part.stop(1)", "error \"1: stop outside a part\"");
    Bench.gives("return pcall(part.stop)", "false, \"1: stop outside a part\"");
    Bench.gives("return pcall(part.new)", "false, \"1: argument 1 of part.new\"");
    Bench.gives("return pcall(part.new, setmetatable({}, {__call = print}))",
        "false, \"1: argument 1 of part.new\"");
    Bench.gives("return pcall(part.go)", "false, \"1: argument 1 of part.go\"");
    Bench.gives("return\npart.go\n(print)", "error \"3: argument 1 of part.go\"");
    Bench.gives("return pcall(part.state, {})", "false, \"1: argument 1 of part.state\"");
    Bench.gives("return pcall(part.state)", "false, \"1: argument 1 of part.state\"");
    Bench.gives("local p = part.new(text.sub) return\npart.go(p, 5)",
        "false, \"2: argument 1 of text.sub\"");
  }

  private static void depths() {
    Bench.gives("local n = 0 local function f() n = n + 1 local p = part.new(f) "
        + "local a, b = part.go(p) return a, b end\nlocal function g() local a, b = f() "
        + "return a, b end return g(), n", "true, 11");
    Bench.gives("local function f(n) local p = part.new(f) if n == 10 then return pcall(part.go,\np) "
        + "end local r = {part.go(p, n + 1)} return list.unpack(r) end "
        + "local r = {f(0)} return #r, r[10], r[11], r[12]",
        "12, true, false, \"1: stack overflow\"");
    Bench.gives("local n = 0 local function f() n = n + 1 f() end "
        + "local p = part.new(function() f() end) local a, b = part.go(p) return n, b",
        "19, \"1: stack overflow\"");
    Bench.gives("local function f(n) if n > 0 then return f(n - 1) end return part.stop(5) end "
        + "local p = part.new(f) local function g(n) if n > 0 then return g(n - 1) end "
        + "return part.go(p, 19) end return g(18)", "true, 5");
    Bench.gives("local p = part.new(pcall) local function f(n) if n > 0 then return f(n - 1) end "
        + "return 'deep' end return part.go(p, f, 18)", "true, true, \"deep\"");
    Bench.gives("local p = part.new(pcall) local function f(n) if n > 0 then return f(n - 1) end "
        + "return 'deep' end return part.go(p, f, 19)", "true, false, \"1: stack overflow\"");
  }

  private static void seenFromOutside() {
    TableTongue x = Bench.compiled("local p = part.new(function() x = 1 part.stop() x = 2 end)\n"
        + "local q = part.new(function() part.go(p) part.go(p) end)\n"
        + "part.go(q) x = 3");
    // 0 entered, local, local, call; q entered, call; p entered, x, stop; call; x
    int[] statesOfP = {0, 0, 0, 0, 0, 0, 2, 2, 2, 1, 2};
    int[] statesOfQ = {0, 0, 0, 0, 2, 2, 3, 3, 3, 2, 3};
    for (int i = 1; i <= 11; i++) {
      Bench.due("run(1)", x.run(1), 2);
      if (i >= 4 && i < 11) {
        Bench.due("kind of p at " + i, x.object(5, 0), 6);
        Bench.due("state of p at " + i, x.object(5, 1), statesOfP[i]);
        Bench.due("state of q at " + i, x.object(7, 1), statesOfQ[i]);
      }
    }
    Bench.due("the rest", x.run(3000), 0);
    Bench.due("steps", x.steps(), 12);
    Bench.due("p is dead", x.object(5, 1), 4);
    Bench.due("q is dead", x.object(7, 1), 4);
    Bench.due("a function's number", x.object(4, 1), 1);
    Bench.due("a function's number", x.object(6, 1), 2);
  }
}
