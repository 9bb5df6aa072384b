/** Part 5 of the terms: what is built in, and promises 13 and 14: THE OUTPUT. */
public final class BuiltInTest {
  public static void main(String[] args) {
    printing();
    texts();
    numbers();
    walking();
    raw();
    metas();
    errors();
    selecting();
    lists();
    packs();
    pieces();
    output();
    Bench.end("BuiltInTest");
  }

  private static void error(String text, String words) {
    Bench.gives(text, "error \"" + words + "\"");
  }

  private static void badArgument(String call, int n, String name) {
    error("return " + call, "1: argument " + n + " of " + name);
  }

  private static void printing() {
    Bench.prints("print() print(1, 'a', nil, true, false) print('')", "\n1 a nil true false\n\n");
    Bench.prints("print({}, print, list, text.sub, ipairs, ipairs({}), part.running(), "
        + "part.new(print), function() end)", "table: 4 function: print table: 1 "
        + "function: text.sub function: ipairs function: ipairs thread: 0 thread: 6 function: 7\n");
    Bench.gives("return select('#', print(1))", "0");
    Bench.gives("return print", "function -1");
    Bench.prints("print(setmetatable({}, {__tostring = 1, __name = 'x'}))", "table: 4\n");
  }

  private static void texts() {
    Bench.gives("return tostring(nil), tostring(true), tostring(-5), tostring('x')",
        "\"nil\", \"true\", \"-5\", \"x\"");
    Bench.gives("return tostring(part.running()), tostring(pcall), tostring(part.go), tostring()",
        "\"thread: 0\", \"function: pcall\", \"function: part.go\", \"nil\"");
    Bench.gives("return tostring({}), tostring(0x8000000000000000)",
        "\"table: 4\", \"-9223372036854775808\"");
    Bench.gives("return type(nil), type(), type(1), type('1'), type({}), type(print), "
        + "type(function() end), type(part.running()), type(false)",
        "\"nil\", \"nil\", \"number\", \"string\", \"table\", \"function\", \"function\", "
        + "\"thread\", \"boolean\"");
  }

  private static void numbers() {
    Bench.gives("return tonumber(5), tonumber('12'), tonumber('-7'), tonumber('007')",
        "5, 12, -7, 7");
    Bench.gives("return tonumber(''), tonumber('-'), tonumber('1x'), tonumber(' 1'), tonumber('+1'),"
        + " tonumber('0x1'), tonumber('--1'), tonumber(nil), tonumber({}), tonumber(true)",
        "nil, nil, nil, nil, nil, nil, nil, nil, nil, nil");
    Bench.gives("return tonumber('999999999999999999'), tonumber('-999999999999999999'), "
        + "tonumber('0000000000000000001'), tonumber('-0')",
        "999999999999999999, -999999999999999999, nil, 0");
    Bench.gives("return tonumber()", "nil");
  }

  private static void walking() {
    Bench.gives("local t = {5, x = 6} return next(t), next(t, 1), next(t, 'x')", "1, \"x\", nil");
    Bench.gives("local t = {5, x = 6} local k, v = next(t, 1) return k, v", "\"x\", 6");
    Bench.gives("local t = {a = 1, b = 2, c = 3} t.b = nil local k = next(t, 'a') local j = "
        + "next(t, 'b') t.a = nil return k, j, next(t)", "\"c\", \"c\", \"c\", 3");
    badArgument("next()", 1, "next");
    badArgument("next('a')", 1, "next");
    badArgument("next({}, 1)", 2, "next");
    error("local t = {a = 1} t.a = nil collect() return next(t, 'a')", "1: argument 2 of next");
    Bench.gives("local t = {} local f, s, v = pairs(t) return f == next, s == t, v, "
        + "select('#', pairs(t))", "true, true, nil, 3");
    badArgument("pairs(nil)", 1, "pairs");
    Bench.gives("local t = {} local f, s, v = ipairs(t) return f == ipairs, f == ipairs({}), s == t,"
        + " v", "false, true, true, 0");
    badArgument("ipairs(5)", 1, "ipairs");
    Bench.gives("local f = ipairs({}) return f({7, 8}, 1)", "2, 8");
    Bench.gives("local f = ipairs({}) return f({7, 8}, 2)", "nil");
    Bench.gives("local f = ipairs({}) return f({[0x8000000000000000] = 3}, 9223372036854775807)",
        "-9223372036854775808, 3");
    badArgument("(ipairs({}))(1, 1)", 1, "ipairs");
    badArgument("(ipairs({}))({}, '1')", 2, "ipairs");
    badArgument("(ipairs({}))()", 1, "ipairs");
    Bench.gives("local t = setmetatable({1}, {__index = function() return 5 end}) local n = 0 "
        + "for i, v in ipairs(t) do n = n + v end return n", "1");
    Bench.prints("local t = {1, 2, nil, 4} for i, v in ipairs(t) do print(i, v) end", "1 1\n2 2\n");
    Bench.prints("local t = {a = 1, b = 2} for k in pairs(t) do t[k] = nil print(k) end "
        + "print(next(t))", "a\nb\nnil\n");
  }

  private static void raw() {
    Bench.gives("local t = setmetatable({}, {__index = {x = 1}}) return t.x, rawget(t, 'x'), "
        + "rawget(t), rawget(t, nil)", "1, nil, nil, nil");
    badArgument("rawget(nil, 1)", 1, "rawget");
    Bench.gives("local t = setmetatable({}, {__newindex = print}) return rawset(t, 1, 2) == t, t[1]",
        "true, 2");
    Bench.gives("local t = {1} rawset(t, 1) return t[1]", "nil");
    badArgument("rawset()", 1, "rawset");
    badArgument("rawset({}, nil, 1)", 2, "rawset");
    badArgument("rawset(5, nil, 1)", 1, "rawset");
    Bench.gives("local m = {__eq = function() return true end} local a, b = setmetatable({}, m), "
        + "setmetatable({}, m) return a == b, rawequal(a, b), rawequal(a, a), rawequal(), "
        + "rawequal(1, '1'), rawequal('a', 'a'), rawequal(0, false), rawequal(nil, false)",
        "true, false, true, true, false, true, false, false");
    Bench.gives("return rawlen(setmetatable({1, 2}, {__len = print})), rawlen('abc')", "2, 3");
    badArgument("rawlen(5)", 1, "rawlen");
    badArgument("rawlen()", 1, "rawlen");
  }

  private static void metas() {
    Bench.gives("local t, m = {}, {} return getmetatable(t), setmetatable(t, m) == t, "
        + "getmetatable(t) == m, setmetatable(t, nil) == t, getmetatable(t)",
        "nil, true, true, true, nil");
    Bench.gives("return getmetatable('a'), getmetatable(), getmetatable(print)", "nil, nil, nil");
    Bench.gives("local t = setmetatable({}, {}) setmetatable(t) return getmetatable(t)", "nil");
    badArgument("setmetatable(nil, {})", 1, "setmetatable");
    badArgument("setmetatable({}, 5)", 2, "setmetatable");
    badArgument("setmetatable({}, false)", 2, "setmetatable");
    badArgument("setmetatable(5, 5)", 1, "setmetatable");
  }

  private static void errors() {
    Bench.gives("error('x')", "error \"x\"");
    Bench.gives("error()", "error nil");
    Bench.gives("error(nil, 5)", "error nil");
    Bench.gives("error(5)", "error 5");
    Bench.gives("return pcall(error, {})", "false, table 4");
    Bench.gives("return pcall(error)", "false, nil");
    Bench.gives("return pcall(function(...) return ... end, 1, nil, 3)", "true, 1, nil, 3");
    Bench.gives("return pcall()", "false, \"1: call of nil\"");
    Bench.gives("return pcall(5)", "false, \"1: call of number\"");
    Bench.gives("return pcall(pcall)", "true, false, \"1: call of nil\"");
    Bench.gives("return pcall(pcall, error, 7)", "true, false, 7");
    Bench.gives("return pcall(type)", "true, \"nil\"");
    Bench.gives("local t = setmetatable({}, {__call = function(t, x) return x end}) "
        + "return pcall(t, 4)", "true, 4");
    Bench.gives("local a, b = pcall(function() local x = nil + 1 end) return a, b",
        "false, \"1: arithmetic on nil\"");
    Bench.gives("return select('#', pcall(function() end))", "1");
    Bench.gives("local t = setmetatable({}, {__call = pcall}) local r = {t()} "
        + "return #r, r[18], r[19], r[20]", "20, true, false, \"1: stack overflow\"");
  }

  private static void selecting() {
    Bench.gives("return select('#'), select('#', nil, nil), select(2, 'a', 'b', 'c')",
        "0, 2, \"b\", \"c\"");
    Bench.gives("return select(-1, 'a', 'b'), (select(-2, 'a', 'b'))", "\"b\", \"a\"");
    Bench.gives("return select(3, 'a', 'b')", "");
    Bench.gives("return select(0x7fffffffffffffff, 'a', 'b')", "");
    Bench.gives("return select(1)", "");
    badArgument("select(0, 1)", 1, "select");
    badArgument("select(-3, 1, 2)", 1, "select");
    badArgument("select(0x8000000000000000, 1, 2)", 1, "select");
    badArgument("select()", 1, "select");
    badArgument("select('1', 2)", 1, "select");
    badArgument("select('', 2)", 1, "select");
    badArgument("select('##', 2)", 1, "select");
    badArgument("select(-1)", 1, "select");
  }

  private static void lists() {
    String join = " return list.concat(t, ' ')";
    Bench.gives("local t = {} list.insert(t, 'a') list.insert(t, 'b') list.insert(t, 1, 'c') "
        + "list.insert(t, 4, 'd') list.insert(t, 2, 'e')" + join, "\"c e a b d\"");
    Bench.gives("local t = {1, 2} return select('#', list.insert(t, 3)), #t", "0, 3");
    Bench.gives("local t = {1, 2, 3} list.insert(t, 2, nil) return #t, t[2], t[3], t[4]",
        "1, nil, 2, 3");
    Bench.gives("local t = {1} list.insert(t, nil) return #t", "1");
    Bench.gives("local t = {1, 2, [4] = 4} list.insert(t, 3) return #t", "4");
    Bench.gives("local t = setmetatable({}, {__newindex = print, __len = print}) list.insert(t, 5) "
        + "return t[1]", "5");
    badArgument("list.insert()", 1, "list.insert");
    badArgument("list.insert({})", 2, "list.insert");
    badArgument("list.insert({}, 1, 2, 3)", 2, "list.insert");
    badArgument("list.insert({}, 2, 2)", 2, "list.insert");
    badArgument("list.insert({}, 0, 2)", 2, "list.insert");
    badArgument("list.insert({}, '1', 2)", 2, "list.insert");
    badArgument("list.insert({}, nil, 2)", 2, "list.insert");
    badArgument("list.insert(nil, 1, 2, 3)", 1, "list.insert");
    Bench.gives("local t = {1, 2, 3, 4} local a, b, c = list.remove(t), list.remove(t, 1), "
        + "list.remove(t, 2) return a, b, c, #t, t[1], t[2]", "4, 1, 3, 1, 2, nil");
    Bench.gives("return list.remove({}), select('#', list.remove({}))", "nil, 1");
    Bench.gives("local t = {1, 2, [4] = 9} list.remove(t, 1) return #t, t[1], t[2], t[4]",
        "1, 2, nil, 9");
    Bench.gives("return list.remove({5}, nil)", "5");
    badArgument("list.remove()", 1, "list.remove");
    badArgument("list.remove({}, 1)", 2, "list.remove");
    badArgument("list.remove({1}, 2)", 2, "list.remove");
    badArgument("list.remove({1}, 0)", 2, "list.remove");
    badArgument("list.remove({1}, '1')", 2, "list.remove");
    Bench.gives("return list.concat({}), list.concat({1}), list.concat({1, 'b', -3}), "
        + "list.concat({1, 2}, ', '), list.concat({}, 'x'), list.concat({1, 2}, nil)",
        "\"\", \"1\", \"1b-3\", \"1, 2\", \"\", \"12\"");
    badArgument("list.concat()", 1, "list.concat");
    badArgument("list.concat({1, true})", 1, "list.concat");
    badArgument("list.concat({{}}, 5)", 1, "list.concat");
    badArgument("list.concat({1}, 5)", 2, "list.concat");
    badArgument("list.concat({}, {})", 2, "list.concat");
    String half = "local h = text.rep('a', 499) ";
    Bench.gives(half + "return #list.concat({h, h}, 'xy')", "1000");
    error(half + "return\nlist.concat\n({h, h}, 'xyz')", "3: too long");
    error(half + "return list.concat({h, h, h, h})", "1: too long");
    badArgument("list.concat({text.rep('a', 999), 'aaa', {}})", 1, "list.concat");
  }

  private static void packs() {
    Bench.gives("local t = list.pack(1, nil, 3) return t, #t, t.n, t[3]", "table 4, 1, 3, 3");
    Bench.gives("local t = list.pack() return t.n, next(t)", "0, \"n\", 0");
    TableTongue x = Bench.ran("list.pack('a', nil, 'c')");
    Bench.due("key 1", x.place(4, 0, 2), 1);
    Bench.due("key 3", x.place(4, 1, 2), 3);
    Bench.due("key n", x.place(4, 2, 0), 3);
    Bench.due("its value", x.place(4, 2, 3), 3);
    Bench.due("n is not counted", x.count(3), 0);
    Bench.gives("return list.unpack({1, 2, nil, 4})", "1, 2");
    Bench.gives("return list.unpack({})", "");
    Bench.gives("return list.unpack(setmetatable({1}, {__index = {1, 2}}))", "1");
    badArgument("list.unpack('a')", 1, "list.unpack");
  }

  private static void pieces() {
    Bench.gives("local s = 'hello' return text.sub(s, 2), text.sub(s, 2, 3), text.sub(s, -2), "
        + "text.sub(s, -3, -2), text.sub(s, 0), text.sub(s, 4, 99), text.sub(s, 3, 2), "
        + "text.sub(s, 9), text.sub(s, -99, 1), text.sub(s, 1, -99), text.sub(s, 2, nil)",
        "\"ello\", \"el\", \"lo\", \"ll\", \"hello\", \"lo\", \"\", \"\", \"h\", \"\", \"ello\"");
    Bench.gives("return text.sub('abc', 0x8000000000000000, 0x7fffffffffffffff), "
        + "text.sub('abc', 0x7fffffffffffffff), text.sub('abc', 1, 0x8000000000000000), "
        + "text.sub('abc', 1, 0)", "\"abc\", \"\", \"\", \"\"");
    badArgument("text.sub()", 1, "text.sub");
    badArgument("text.sub(5, 1)", 1, "text.sub");
    badArgument("text.sub('a')", 2, "text.sub");
    badArgument("text.sub('a', '1')", 2, "text.sub");
    badArgument("text.sub('a', 1, '1')", 3, "text.sub");
    badArgument("text.sub('a', nil, '1')", 2, "text.sub");
    Bench.gives("return text.byte('abc'), text.byte('abc', 3), text.byte('abc', -1), "
        + "text.byte('\\255'), select('#', text.byte('abc', 4))", "97, 99, 99, 255, 0");
    Bench.gives("local function n(...) return select('#', ...) end return n(text.byte('')), "
        + "n(text.byte('a', 0)), n(text.byte('a', -2)), n(text.byte('a', 0x8000000000000000))",
        "0, 0, 0, 0");
    badArgument("text.byte(97)", 1, "text.byte");
    badArgument("text.byte('a', 'a')", 2, "text.byte");
    Bench.gives("return text.char(), text.char(72, 0, 255), text.char(65) == 'A'",
        "\"\", \"H\u0000\u00ff\", true");
    badArgument("text.char(256)", 1, "text.char");
    badArgument("text.char(1, -1)", 2, "text.char");
    badArgument("text.char(1, 2, '3')", 3, "text.char");
    Bench.gives("return text.rep('ab', 3), text.rep('ab', 0), text.rep('ab', -5), "
        + "text.rep('', 0x7fffffffffffffff), #text.rep('a', 1000), #text.rep('abc', 333)",
        "\"ababab\", \"\", \"\", \"\", 1000, 999");
    error("return\n#text.rep('a', 1001)", "2: too long");
    error("return text.rep('abc', 334)", "1: too long");
    error("return text.rep('abc', 0x7fffffffffffffff)", "1: too long");
    badArgument("text.rep(1, 2)", 1, "text.rep");
    badArgument("text.rep('a')", 2, "text.rep");
  }

  private static void output() {
    TableTongue x = Bench.compiled("for i = 1, 5 do print(text.rep('a', 700)) end");
    Bench.due("outputs", x.outputs(), 0);
    Bench.due("output(0)", () -> x.output(0), "index");
    Bench.runToEnd(x);
    Bench.due("outputs", x.outputs(), 3505);
    Bench.due("output(0)", x.output(0), 'a');
    Bench.due("output(700)", x.output(700), 10);
    Bench.due("output(2999)", x.output(2999), 'a');
    Bench.due("output(3000)", () -> x.output(3000), "index");
    Bench.due("output(-1)", () -> x.output(-1), "index");
    TableTongue y = Bench.ran("print('\\255\\200')");
    Bench.due("output of 255", y.output(0), 255);
    Bench.due("output behind", () -> y.output(3), "index");
    StringBuilder b = new StringBuilder("local s = text.rep('a', 1000) while true do ");
    for (int i = 0; i < 14; i++) {
      b.append("print(s, s, s, s, s, s, s, s, s, s, s, s, s, s, s) ");
    }
    TableTongue z = Bench.compiled(b + "end");
    for (int i = 0; i < 60; i++) {
      z.run(3000);
    }
    Bench.due("at most 2147483647", z.outputs(), Integer.MAX_VALUE);
  }
}
