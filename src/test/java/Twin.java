import java.util.Arrays;

/** A TermLoom and a PlainLoom that get the same calls; their answers must be the same. */
final class Twin {
  final PlainLoom plain = new PlainLoom();
  private final TermLoom loom = new TermLoom();
  private final String name;
  private int calls = 0;

  /** What the latest call answered. */
  String latest = "";

  Twin(String name) {
    this.name = name;
  }

  int calls() {
    return calls;
  }

  /** The answer as a number, and least of all if the call threw. */
  private int both(String method, Checks.Call one, Checks.Call other, int... arguments) {
    calls++;
    if (calls > 512) {
      throw new AssertionError(name + ": what an object answers after 512 calls is free");
    }
    String text = method + Arrays.toString(arguments);
    latest = Checks.answer(one);
    Checks.due(name + ", call " + calls + ": " + text, latest, Checks.answer(other));
    return latest.startsWith("throws") ? Integer.MIN_VALUE : Integer.parseInt(latest);
  }

  int constructor(int takes) {
    return both("constructor", () -> loom.constructor(takes), () -> plain.constructor(takes), takes);
  }

  int typeVariable(int n) {
    return both("typeVariable", () -> loom.typeVariable(n), () -> plain.typeVariable(n), n);
  }

  int type(int c, int a, int b) {
    return both("type", () -> loom.type(c, a, b), () -> plain.type(c, a, b), c, a, b);
  }

  int typeSymbol(int type, int i) {
    return both("typeSymbol", () -> loom.typeSymbol(type, i), () -> plain.typeSymbol(type, i), type, i);
  }

  int declare(int type) {
    return both("declare", () -> loom.declare(type), () -> plain.declare(type), type);
  }

  int free(int n, int type) {
    return both("free", () -> loom.free(n, type), () -> plain.free(n, type), n, type);
  }

  int constant(int c, int type) {
    return both("constant", () -> loom.constant(c, type), () -> plain.constant(c, type), c, type);
  }

  int apply(int f, int x) {
    return both("apply", () -> loom.apply(f, x), () -> plain.apply(f, x), f, x);
  }

  int abstraction(int v, int body) {
    return both("abstraction", () -> loom.abstraction(v, body), () -> plain.abstraction(v, body), v, body);
  }

  int part(int t, int which) {
    return both("part", () -> loom.part(t, which), () -> plain.part(t, which), t, which);
  }

  int open(int t, int s) {
    return both("open", () -> loom.open(t, s), () -> plain.open(t, s), t, s);
  }

  int put(int t, int v, int s) {
    return both("put", () -> loom.put(t, v, s), () -> plain.put(t, v, s), t, v, s);
  }

  int retype(int t, int n, int type) {
    return both("retype", () -> loom.retype(t, n, type), () -> plain.retype(t, n, type), t, n, type);
  }

  int typeOf(int t) {
    return both("typeOf", () -> loom.typeOf(t), () -> plain.typeOf(t), t);
  }

  int symbol(int t, int i) {
    return both("symbol", () -> loom.symbol(t, i), () -> plain.symbol(t, i), t, i);
  }

  int measure(int t, int what) {
    return both("measure", () -> loom.measure(t, what), () -> plain.measure(t, what), t, what);
  }

  int same(int t, int u) {
    return both("same", () -> loom.same(t, u) ? 1 : 0, () -> plain.same(t, u) ? 1 : 0, t, u);
  }

  int sameType(int a, int b) {
    return both("sameType", () -> loom.sameType(a, b) ? 1 : 0, () -> plain.sameType(a, b) ? 1 : 0, a, b);
  }

  int occurs(int v, int t) {
    return both("occurs", () -> loom.occurs(v, t) ? 1 : 0, () -> plain.occurs(v, t) ? 1 : 0, v, t);
  }

  int match(int p, int t) {
    return both("match", () -> loom.match(p, t), () -> plain.match(p, t), p, t);
  }

  int matched(int i) {
    return both("matched", () -> loom.matched(i), () -> plain.matched(i), i);
  }
}
