import java.util.List;
import java.util.Random;

/** Whatever the arguments and however many the calls: nothing but the face's exceptions comes out. */
public final class SturdyTest {
  private static final int CALLS = 4000;
  private static final int[] EDGES = {
    Integer.MIN_VALUE, Integer.MIN_VALUE + 1, -1001, -2, -1, 0, 1, 2, 3, 39, 40, 119, 199, 200, 511,
    512, 513, 999, 1000, 4000, 8000, 30000, Integer.MAX_VALUE - 1, Integer.MAX_VALUE
  };

  private static final List<String> ALLOWED = List.of(Checks.INDEX, Checks.ARGUMENT, Checks.STATE);

  private final TermLoom loom = new TermLoom();
  private final Random random;

  private SturdyTest(int seed) {
    random = new Random(seed);
  }

  public static void main(String[] args) {
    for (int seed = 1; seed <= 60; seed++) {
      new SturdyTest(seed).run();
      new SturdyTest(seed).manyHandles();
    }
    Checks.end("SturdyTest");
  }

  private void run() {
    for (int i = 0; i < CALLS; i++) {
      check(random.nextInt(21), argument(), argument(), argument());
    }
  }

  /** More handles than any run of 512 calls makes, and then all else. */
  private void manyHandles() {
    for (int i = 0; i < 600; i++) {
      check(1, i, 0, 0);
      check(5, i, i, 0);
    }
    run();
  }

  private void check(int which, int a, int b, int c) {
    String answer = Checks.answer(() -> call(which, a, b, c));
    boolean fine = !answer.startsWith("throws") || ALLOWED.contains(answer);
    Checks.due("method " + which + " of " + a + ", " + b + ", " + c, fine ? "fine" : answer, "fine");
  }

  private int argument() {
    return random.nextInt(4) == 0 ? EDGES[random.nextInt(EDGES.length)] : random.nextInt(12);
  }

  private long call(int which, int a, int b, int c) {
    switch (which) {
      case 0: return loom.constructor(a);
      case 1: return loom.typeVariable(a);
      case 2: return loom.type(a, b, c);
      case 3: return loom.typeSymbol(a, b);
      case 4: return loom.declare(a);
      case 5: return loom.free(a, b);
      case 6: return loom.constant(a, b);
      case 7: return loom.apply(a, b);
      case 8: return loom.abstraction(a, b);
      case 9: return loom.part(a, b);
      case 10: return loom.open(a, b);
      case 11: return loom.put(a, b, c);
      case 12: return loom.retype(a, b, c);
      case 13: return loom.typeOf(a);
      case 14: return loom.symbol(a, b);
      case 15: return loom.measure(a, b);
      case 16: return loom.same(a, b) ? 1 : 0;
      case 17: return loom.sameType(a, b) ? 1 : 0;
      case 18: return loom.occurs(a, b) ? 1 : 0;
      case 19: return loom.match(a, b);
      default: return loom.matched(a);
    }
  }
}
