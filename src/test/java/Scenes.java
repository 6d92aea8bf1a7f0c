/** Objects that have come near a limit of the document. */
final class Scenes {
  private Scenes() {}

  /** So many constructors, the new ones taking none, one and two in turn. */
  static final class Constructors extends Scene {
    final int alpha = twin.typeVariable(0);

    Constructors(int count) {
      for (int number = 3; number < count; number++) {
        twin.constructor(number % 3);
      }
    }
  }

  static final class Constants extends Scene {
    final int alpha = twin.typeVariable(0);

    Constants(int count) {
      for (int number = 0; number < count; number++) {
        twin.declare(alpha);
      }
    }
  }

  /** Types of nearly as many symbols as there may be, and variables of them. */
  static final class LargeTypes extends Started {
    final int ninetyNine = typeOfSize(99);
    final int hundred = twin.type(unary, ninetyNine, 0);
    final int nearly = typeOfSize(199);
    final int most = twin.type(unary, nearly, 0);
    final int list = twin.type(unary, alpha, 0);
    final int ofNinetyNine = twin.free(5, ninetyNine);
    final int ofHundred = twin.free(5, hundred);
    final int ofMost = twin.free(5, most);
    final int ofList = twin.free(5, list);
    final int constantOfList = twin.constant(declared, list);
    final int toList = twin.abstraction(x, ofList);
    final int applied = twin.apply(self, x);

    LargeTypes() {
      Checks.due("symbols", Integer.toString(twin.plain.types.get(most).symbols), "200");
    }
  }

  /** What a type is within, to be one higher: a list of it, functions from it, or to it. */
  enum Way {
    LIST(24), FROM(47), TO(47);

    /** How many symbols a type of height 24 has. */
    final int symbols;

    Way(int symbols) {
      this.symbols = symbols;
    }
  }

  /** Types of nearly the greatest height, on a variable, and variables of them. */
  static final class HighTypes extends Started {
    private final Way way;
    final int low;
    final int height23;
    final int height24;
    final int of23;
    final int of24;
    final int ofLow;
    final int constantOfLow;
    final int applied = twin.apply(self, x);

    HighTypes(Way way) {
      this.way = way;
      low = higher(alpha);
      int type = low;
      for (int height = 2; height < 23; height++) {
        type = higher(type);
      }
      height23 = type;
      height24 = higher(height23);
      of23 = twin.free(5, height23);
      of24 = twin.free(5, height24);
      ofLow = twin.free(5, low);
      constantOfLow = twin.constant(declared, low);
      Checks.due("height", Integer.toString(twin.plain.types.get(height24).height), "24");
    }

    int higher(int type) {
      if (way == Way.LIST) {
        return twin.type(unary, type, 0);
      }
      return way == Way.FROM ? twin.type(2, type, things) : twin.type(2, things, type);
    }

    void allSymbols(int type) {
      for (int i = 0; i < way.symbols; i++) {
        twin.typeSymbol(type, i);
      }
    }
  }

  /** A term of type alpha and of so many symbols. */
  static final class LargeTerm extends Started {
    final int large;
    final int twice = twin.apply(gx, x);
    final int overTwice = twin.abstraction(x, twice);

    LargeTerm(int size) {
      large = termOfSize(size);
      Checks.due("symbols", twin.measure(large, 0) + "", size + "");
      Checks.due("room", twin.plain.symbolsOfTerms() + 8000 < 30000 ? "yes" : "no", "yes");
    }
  }

  /** Terms of nearly the greatest height, all of type alpha. */
  static final class HighTerms extends Started {
    final int height15 = tower(15);
    final int height16 = twin.apply(f, height15);
    final int height30 = joined(height16, height15);
    final int height31 = joined(height16, height16);
    final int height60 = joined(height31, height30);
    final int height61 = joined(height31, height31);
    final int height118 = twin.part(joined(height60, height60), 1);
    final int height119 = height118 - 1;
    final int height120 = joined(height61, height60);
    final int over61 = twin.abstraction(x, height61);

    HighTerms() {
      Checks.due("height", twin.measure(height118, 1) + "", "118");
      Checks.due("height", twin.measure(height119, 1) + "", "119");
      Checks.due("height", twin.measure(height120, 1) + "", "120");
    }
  }

  /** Terms of functions and of nearly the greatest height. */
  static final class HighFunctions extends Started {
    final int height31 = joined(tower(16), tower(16));
    final int height61 = joined(height31, height31);
    final int height91 = joined(height61, height31);
    final int height118 = joined(height91, tower(28));
    final int height119 = twin.apply(g, height118);
    final int height120 = twin.apply(g, twin.apply(f, height118));

    HighFunctions() {
      Checks.due("height", twin.measure(height119, 1) + "", "119");
      Checks.due("height", twin.measure(height120, 1) + "", "120");
    }
  }

  /** Terms that have 30000 symbols together, but for so many. */
  static final class FullTerms extends Started {
    FullTerms(int left) {
      for (int size : new int[] {1000, 100, 10, 1}) {
        int t = termOfSize(size);
        while (twin.plain.symbolsOfTerms() + size + left <= 30000) {
          twin.retype(t, 7, alpha);
        }
      }
      twin.match(x, gxy);
      Checks.due("symbols together", twin.plain.symbolsOfTerms() + left + "", "30000");
    }
  }

  /** Types that have 6000 symbols together, but for so many. */
  static final class FullTypes extends Started {
    FullTypes(int left) {
      int of200 = twin.free(5, typeOfSize(200));
      int of20 = twin.free(5, typeOfSize(20));
      fillTypes(left, of200, of20, g, x);
    }
  }

  /** 8000 different types, but for so many. */
  static final class ManyTypes extends Started {
    private static final int OF_WHOLE = 144;
    private static final int OF_CHAIN = 11;

    final int ofTwo = twin.free(8, twin.type(2, endless, alpha));
    final int height15 = tower(15);
    final int height16 = twin.apply(f, height15);
    final int height30 = joined(height16, height15);
    final int height31 = joined(height16, height16);
    final int height120 = joined(joined(height31, height31), joined(height31, height30));
    private final int ofChain;
    private final int ofWhole;

    ManyTypes(int left) {
      int chain = typeOfHeight(OF_CHAIN, alpha);
      ofChain = twin.free(5, chain);
      ofWhole = twin.free(5, whole(chain));
      int n = 1;
      for (; twin.plain.differentTypes() + OF_WHOLE + left <= 8000; n++) {
        twin.retype(ofWhole, 0, twin.typeVariable(n));
      }
      for (; twin.plain.differentTypes() + OF_CHAIN + left <= 8000; n++) {
        twin.retype(ofChain, 0, twin.typeVariable(n));
      }
      for (; twin.plain.differentTypes() + left < 8000; n++) {
        twin.typeVariable(n);
      }
      Checks.due("different types", twin.plain.differentTypes() + left + "", "8000");
    }

    /** The same, and no room for a handle of a type. */
    static ManyTypes withoutHandles(int left) {
      ManyTypes scene = new ManyTypes(left);
      scene.fillTypes(0, scene.ofWhole, scene.ofChain, scene.x);
      return scene;
    }

    /** A type of which nearly each symbol is the beginning of another type with alpha in it. */
    private int whole(int chain) {
      int type = twin.type(2, chain, alpha);
      for (int i = 1; i < 13; i++) {
        type = twin.type(2, otherChain(), type);
      }
      return type;
    }

    private int otherChain() {
      int constructor = twin.constructor(1);
      int type = alpha;
      for (int i = 1; i < OF_CHAIN; i++) {
        type = twin.type(constructor, type, 0);
      }
      return type;
    }
  }
}
