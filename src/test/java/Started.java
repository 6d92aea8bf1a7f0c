import java.util.HashMap;
import java.util.Map;

/** An object with some types and terms and a match that fitted, and what makes larger ones. */
class Started extends Scene {
  final int unary = twin.constructor(1);
  final int nullary = twin.constructor(0);
  final int alpha = twin.typeVariable(0);
  final int truths = twin.type(0, 0, 0);
  final int things = twin.type(1, 0, 0);
  final int endless = twin.type(2, alpha, alpha);
  final int twoPlaces = twin.type(2, alpha, endless);
  final int x = twin.free(1, alpha);
  final int y = twin.free(2, alpha);
  final int truth = twin.free(1, truths);
  final int f = twin.free(3, endless);
  final int g = twin.free(4, twoPlaces);
  final int declared = twin.declare(alpha);
  final int c = twin.constant(declared, alpha);
  final int fx = twin.apply(f, x);
  final int gx = twin.apply(g, x);
  final int gxy = twin.apply(gx, y);
  final int over = twin.abstraction(x, fx);
  final int self = twin.abstraction(x, x);
  final int idle = twin.abstraction(y, x);
  final int variables = twin.match(gxy, gxy);

  private final Map<Integer, Integer> termsBySize = new HashMap<>();

  /** A type of so many symbols and alpha at each end. */
  final int typeOfSize(int size) {
    if (size == 1) {
      return alpha;
    }
    if (size % 2 == 0) {
      return twin.type(unary, typeOfSize(size - 1), 0);
    }
    int half = (size - 1) / 2;
    int one = typeOfSize(half);
    return twin.type(2, one, half == size - 1 - half ? one : typeOfSize(size - 1 - half));
  }

  /** The lowest type within others up to such a height; the lowest one's is 1. */
  final int typeOfHeight(int height, int lowest) {
    int type = lowest;
    for (int i = 1; i < height; i++) {
      type = twin.type(unary, type, 0);
    }
    return type;
  }

  /** Handles of these terms' types, up to 6000 symbols together but for so many. */
  final void fillTypes(int left, int... ofTypes) {
    for (int t : ofTypes) {
      int size = twin.plain.terms.get(t).type.symbols;
      while (twin.plain.symbolsOfTypes() + size + left <= 6000) {
        twin.typeOf(t);
      }
    }
    Checks.due("symbols together", twin.plain.symbolsOfTypes() + left + "", "6000");
  }

  /** A term of type alpha and of so many symbols (2 is none). */
  final int termOfSize(int size) {
    Integer known = termsBySize.get(size);
    if (known == null) {
      known = newTermOfSize(size);
      termsBySize.put(size, known);
    }
    return known;
  }

  private int newTermOfSize(int size) {
    if (size == 1) {
      return x;
    }
    if (size == 3) {
      return fx;
    }
    if (size % 2 == 0) {
      return twin.apply(self, termOfSize(size - 3));
    }
    int half = size == 7 ? 1 : (size - 3) / 2;
    return twin.apply(twin.apply(g, termOfSize(half)), termOfSize(size - 3 - half));
  }

  /** So many symbols high, with x lowest and f all the way up. */
  final int tower(int height) {
    int t = x;
    for (int i = 1; i < height; i++) {
      t = twin.apply(f, t);
    }
    return t;
  }

  /** One upon the other: of both heights together, but 1. */
  final int joined(int upper, int lower) {
    return twin.put(upper, x, lower);
  }
}
