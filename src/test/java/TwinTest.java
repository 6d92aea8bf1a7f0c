import java.util.ArrayList;
import java.util.List;
import java.util.Random;

/** Many runs of calls, drawn from seeds, that are answered by the class and by PlainLoom alike. */
public final class TwinTest {
  private static final int CALLS = 512;

  private final Twin twin;
  private final Random random;
  private final boolean growing;
  private final int wrongInHundred;
  private final int numbers;

  private static long fits = 0;
  private static long misfits = 0;
  private static long refusedByState = 0;
  private static long calls = 0;

  private TwinTest(int seed) {
    twin = new Twin("seed " + seed);
    random = new Random(seed);
    growing = seed % 3 == 0;
    wrongInHundred = seed % 5 == 0 ? 20 : 3;
    numbers = seed % 2 == 0 ? 3 : 5;
  }

  public static void main(String[] args) {
    int seeds = args.length > 0 ? Integer.parseInt(args[0]) : 600;
    for (int seed = 1; seed <= seeds; seed++) {
      new TwinTest(seed).run();
    }
    System.out.println(calls + " calls, " + fits + " matches, " + misfits + " misfits, "
        + refusedByState + " refused by a limit");
    Checks.due("enough matches", fits * 20 > calls && fits > 100 ? "yes" : "no", "yes");
    Checks.due("enough misfits", misfits > 100 ? "yes" : "no", "yes");
    Checks.due("enough refused", refusedByState > 100 ? "yes" : "no", "yes");
    Checks.end("TwinTest");
  }

  private void run() {
    twin.typeVariable(0);
    twin.typeVariable(1);
    twin.type(0, 0, 0);
    twin.type(1, 0, 0);
    if (growing) {
      twin.type(2, 0, 0);
      twin.free(0, 0);
      twin.free(1, 4);
      twin.free(2, twin.type(2, 0, 4));
    }
    while (twin.calls() < CALLS) {
      calls++;
      step();
      if (twin.latest.equals(Checks.STATE)) {
        refusedByState++;
      }
    }
  }

  private void step() {
    int draw = random.nextInt(100);
    if (draw < 16) {
      typeCall(random.nextInt(16));
    } else if (draw < 32) {
      leafCall(random.nextInt(3));
    } else if (draw < 65) {
      termCall(random.nextInt(growing ? 18 : 11));
    } else if (draw < 80) {
      question(random.nextInt(8));
    } else {
      matchCall();
    }
  }

  private void typeCall(int which) {
    if (which == 0) {
      twin.constructor(wrong() ? random.nextInt(7) - 2 : random.nextInt(3));
    } else if (which < 3) {
      twin.typeVariable(wrong() ? random.nextInt(3) * 1000 - 1 : random.nextInt(numbers));
    } else if (which == 3) {
      twin.typeOf(term());
    } else {
      int constructor = random.nextInt(3) > 0 ? 2 : random.nextInt(twin.plain.constructors());
      twin.type(wrong() ? random.nextInt(45) - 2 : constructor, newType(), newType());
    }
  }

  private void leafCall(int which) {
    if (which == 0 && twin.plain.constants() < 6) {
      twin.declare(type());
    } else if (which < 2 || twin.plain.constants() == 0) {
      twin.free(wrong() ? random.nextInt(3) * 1000 - 1 : random.nextInt(numbers), type());
    } else {
      int c = random.nextInt(twin.plain.constants());
      twin.constant(wrong() ? random.nextInt(9) - 2 : c, type());
    }
  }

  private void termCall(int which) {
    if (which < 3) {
      int f = ofFunctions();
      int x = argumentOf(f);
      twin.apply(growing && random.nextBoolean() ? 2 : f, growing ? larger(x, argumentOf(f)) : x);
    } else if (which < 5) {
      twin.abstraction(variable(), term());
    } else if (which == 5) {
      twin.part(ofKind(PlainLoom.Kind.APPLICATION), wrong() ? random.nextInt(5) - 2 : random.nextInt(2));
    } else if (which < 8) {
      int t = ofKind(PlainLoom.Kind.ABSTRACTION);
      twin.open(t, argumentOf(t));
    } else if (which == 8) {
      int v = variable();
      twin.put(term(), v, like(v));
    } else if (which > 10) {
      int v = random.nextBoolean() ? 0 : variable();
      twin.put(large(), v, larger(larger(like(v), like(v)), like(v)));
    } else {
      twin.retype(term(), wrong() ? random.nextInt(3) * 1000 - 1 : random.nextInt(numbers), type());
    }
  }

  private void question(int which) {
    int t = term();
    switch (which) {
      case 0:
        twin.symbol(t, random.nextInt(9) - 1);
        break;
      case 1:
        twin.measure(t, wrong() ? random.nextInt(5) - 2 : random.nextInt(2));
        break;
      case 2:
        twin.same(t, like(t));
        break;
      case 3:
        twin.sameType(type(), type());
        break;
      case 4:
        twin.occurs(variable(), t);
        break;
      case 5:
        twin.typeSymbol(type(), random.nextInt(6) - 1);
        break;
      default:
        int size = has(t) ? (int) twin.plain.terms.get(t).symbols : 1;
        twin.symbol(t, random.nextInt(size + 1));
        break;
    }
  }

  private void matchCall() {
    int p = term();
    int t = random.nextInt(4) > 0 ? like(p) : term();
    int answer = twin.match(p, t);
    if (answer < 0) {
      misfits++;
    } else {
      fits++;
    }
    for (int i = -1; i <= answer && twin.calls() < CALLS; i++) {
      if (random.nextInt(4) == 0) {
        twin.matched(i);
      }
    }
  }

  private boolean wrong() {
    return random.nextInt(100) < wrongInHundred;
  }

  private boolean has(int t) {
    return t >= 0 && t < twin.plain.terms.size();
  }

  private int type() {
    int count = twin.plain.types.size();
    if (wrong()) {
      return random.nextInt(count + 4) - 2;
    }
    // Few types, so that terms of one type are many; at times any, so that types grow.
    return random.nextInt(random.nextInt(3) == 0 ? count : Math.min(count, growing ? 6 : 20));
  }

  private int newType() {
    int count = twin.plain.types.size();
    int newest = count - 1 - random.nextInt(Math.min(count, 4));
    return growing && random.nextBoolean() ? newest : type();
  }

  private int term() {
    int count = twin.plain.terms.size();
    if (count == 0 || wrong()) {
      return random.nextInt(count + 4) - 2;
    }
    return random.nextInt(count);
  }

  private int large() {
    int best = term();
    for (int i = 0; i < 6; i++) {
      best = larger(best, term());
    }
    return best;
  }

  private int larger(int one, int other) {
    boolean both = has(one) && has(other);
    return both && twin.plain.terms.get(other).symbols > twin.plain.terms.get(one).symbols ? other : one;
  }

  private int chosen(List<Integer> candidates) {
    boolean other = candidates.isEmpty() || wrong();
    return other ? term() : candidates.get(random.nextInt(candidates.size()));
  }

  private int ofKind(PlainLoom.Kind kind) {
    List<Integer> candidates = new ArrayList<>();
    for (int t = 0; t < twin.plain.terms.size(); t++) {
      if (twin.plain.terms.get(t).kind == kind) {
        candidates.add(t);
      }
    }
    return chosen(candidates);
  }

  private int variable() {
    return ofKind(PlainLoom.Kind.FREE);
  }

  private int ofFunctions() {
    List<Integer> candidates = new ArrayList<>();
    for (int t = 0; t < twin.plain.terms.size(); t++) {
      if (twin.plain.terms.get(t).type.head == 2) {
        candidates.add(t);
      }
    }
    return chosen(candidates);
  }

  private int ofType(PlainLoom.Type type) {
    List<Integer> candidates = new ArrayList<>();
    for (int t = 0; t < twin.plain.terms.size(); t++) {
      if (twin.plain.terms.get(t).type.equals(type)) {
        candidates.add(t);
      }
    }
    return chosen(candidates);
  }

  /** A term of the type that f's functions are from. */
  private int argumentOf(int f) {
    if (!has(f) || twin.plain.terms.get(f).type.head != 2) {
      return term();
    }
    return ofType(twin.plain.terms.get(f).type.takes.get(0));
  }

  private int like(int t) {
    return has(t) ? ofType(twin.plain.terms.get(t).type) : term();
  }
}
