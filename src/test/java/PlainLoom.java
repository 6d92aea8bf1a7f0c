import java.util.ArrayList;
import java.util.HashSet;
import java.util.List;
import java.util.Set;

/**
 * The document once more, in another way, to compare with: trees, and binders that are told by
 * which object they are. A binder may stand within itself; the innermost one counts.
 */
final class PlainLoom {
  static final class Type {
    final int head;
    final List<Type> takes;
    final int symbols;
    final int height;
    private final int hash;

    Type(int head, List<Type> takes) {
      int size = 1;
      int high = 0;
      for (Type taken : takes) {
        size += taken.symbols;
        high = Math.max(high, taken.height);
      }
      this.head = head;
      this.takes = takes;
      this.symbols = size;
      this.height = high + 1;
      this.hash = 31 * head + takes.hashCode();
    }

    boolean fitsLimits() {
      return symbols <= 200 && height <= 24;
    }

    @Override
    public boolean equals(Object other) {
      return other == this
          || other instanceof Type t && t.hash == hash && t.head == head && t.takes.equals(takes);
    }

    @Override
    public int hashCode() {
      return hash;
    }
  }

  static final class Binder {
    final Type type;

    Binder(Type type) {
      this.type = type;
    }
  }

  enum Kind { FREE, CONSTANT, BOUND, APPLICATION, ABSTRACTION }

  static final class Term {
    final Kind kind;
    final int number;
    final Type type;
    final Binder binder;
    final Term left;
    final Term right;
    final long symbols;
    final int height;

    private Term(Kind kind, int number, Type type, Binder binder, Term left, Term right) {
      this.kind = kind;
      this.number = number;
      this.type = type;
      this.binder = binder;
      this.left = left;
      this.right = right;
      this.symbols = 1 + (left == null ? 0 : left.symbols) + (right == null ? 0 : right.symbols);
      this.height = 1 + Math.max(left == null ? 0 : left.height, right == null ? 0 : right.height);
    }

    static Term free(int n, Type type) {
      return new Term(Kind.FREE, n, type, null, null, null);
    }

    static Term constant(int c, Type type) {
      return new Term(Kind.CONSTANT, c, type, null, null, null);
    }

    static Term bound(Binder binder) {
      return new Term(Kind.BOUND, 0, binder.type, binder, null, null);
    }

    static Term application(Term f, Term x) {
      return new Term(Kind.APPLICATION, 0, f.type.takes.get(1), null, f, x);
    }

    static Term abstraction(Binder binder, Term body) {
      return new Term(
          Kind.ABSTRACTION, 0, new Type(2, List.of(binder.type, body.type)), binder, body, null);
    }

    boolean isFree(Term v) {
      return kind == Kind.FREE && number == v.number && type.equals(v.type);
    }
  }

  private final List<Integer> takes = new ArrayList<>(List.of(0, 0, 2));
  private final List<Type> declared = new ArrayList<>();
  private final Set<Type> different = new HashSet<>();
  private long typeSymbols = 0;
  private long termSymbols = 0;
  final List<Type> types = new ArrayList<>();
  final List<Term> terms = new ArrayList<>();
  private List<Term> made = new ArrayList<>();

  int constructors() {
    return takes.size();
  }

  int constants() {
    return declared.size();
  }

  int differentTypes() {
    return different.size();
  }

  long symbolsOfTypes() {
    return typeSymbols;
  }

  long symbolsOfTerms() {
    return termSymbols;
  }

  int made() {
    return made.size();
  }

  int constructor(int takesTypes) {
    argument(takesTypes >= 0 && takesTypes <= 2);
    state(takes.size() < 40);
    takes.add(takesTypes);
    return takes.size() - 1;
  }

  int typeVariable(int n) {
    argument(n >= 0 && n <= 999);
    return keep(new Type(-1 - n, List.of()));
  }

  int type(int constructor, int a, int b) {
    argument(constructor >= 0 && constructor < takes.size());
    List<Type> taken = new ArrayList<>();
    if (takes.get(constructor) > 0) {
      taken.add(typeAt(a));
    }
    if (takes.get(constructor) > 1) {
      taken.add(typeAt(b));
    }
    return keep(new Type(constructor, taken));
  }

  int typeSymbol(int type, int i) {
    List<Integer> symbols = new ArrayList<>();
    list(typeAt(type), symbols);
    index(i >= 0 && i < symbols.size());
    return symbols.get(i);
  }

  int declare(int type) {
    Type own = typeAt(type);
    state(declared.size() < 200);
    declared.add(own);
    return declared.size() - 1;
  }

  int free(int n, int type) {
    Type own = typeAt(type);
    argument(n >= 0 && n <= 999);
    return keep(Term.free(n, own));
  }

  int constant(int c, int type) {
    Type own = typeAt(type);
    argument(c >= 0 && c < declared.size());
    argument(fits(declared.get(c), own, new java.util.HashMap<>()));
    return keep(Term.constant(c, own));
  }

  int apply(int f, int x) {
    Term function = termAt(f);
    Term to = termAt(x);
    argument(function.type.head == 2 && function.type.takes.get(0).equals(to.type));
    return keep(Term.application(function, to));
  }

  int abstraction(int v, int body) {
    Term variable = termAt(v);
    Term inside = termAt(body);
    argument(variable.kind == Kind.FREE);
    Binder binder = new Binder(variable.type);
    return keep(Term.abstraction(binder, replaced(inside, variable, Term.bound(binder))));
  }

  int part(int t, int which) {
    Term whole = termAt(t);
    argument(whole.kind == Kind.APPLICATION && (which == 0 || which == 1));
    return keep(which == 0 ? whole.left : whole.right);
  }

  int open(int t, int s) {
    Term whole = termAt(t);
    Term in = termAt(s);
    argument(whole.kind == Kind.ABSTRACTION && whole.binder.type.equals(in.type));
    return keep(opened(whole.left, whole.binder, in));
  }

  int put(int t, int v, int s) {
    Term whole = termAt(t);
    Term variable = termAt(v);
    Term in = termAt(s);
    argument(variable.kind == Kind.FREE && variable.type.equals(in.type));
    return keep(replaced(whole, variable, in));
  }

  int retype(int t, int n, int type) {
    Term whole = termAt(t);
    Type becomes = typeAt(type);
    argument(n >= 0 && n <= 999);
    return keep(retyped(whole, n, becomes, new ArrayList<>(), new ArrayList<>()));
  }

  int typeOf(int t) {
    return keep(termAt(t).type);
  }

  int symbol(int t, int i) {
    Term whole = termAt(t);
    index(i >= 0 && i < whole.symbols);
    List<Integer> symbols = new ArrayList<>();
    list(whole, new ArrayList<>(), symbols);
    return symbols.get(i);
  }

  int measure(int t, int what) {
    Term whole = termAt(t);
    argument(what == 0 || what == 1);
    return what == 0 ? (int) whole.symbols : whole.height;
  }

  boolean same(int t, int u) {
    Term one = termAt(t);
    Term other = termAt(u);
    return alike(one, other, new ArrayList<>(), new ArrayList<>());
  }

  boolean sameType(int a, int b) {
    Type one = typeAt(a);
    return one.equals(typeAt(b));
  }

  boolean occurs(int v, int t) {
    Term variable = termAt(v);
    Term whole = termAt(t);
    argument(variable.kind == Kind.FREE);
    return holds(whole, variable);
  }

  int match(int p, int t) {
    Term pattern = termAt(p);
    Term whole = termAt(t);
    Attempt attempt = new Attempt();
    made = attempt.fits(pattern, whole) ? attempt.made : null;
    int answer = made == null ? -1 : made.size();
    made = made == null ? new ArrayList<>() : made;
    return answer;
  }

  int matched(int i) {
    index(i >= 0 && i < made.size());
    return keep(made.get(i));
  }

  private static final class Attempt {
    final List<Term> variables = new ArrayList<>();
    final List<Term> made = new ArrayList<>();
    final java.util.Map<Integer, Type> put = new java.util.HashMap<>();
    final List<Binder> patternBinders = new ArrayList<>();
    final List<Binder> termBinders = new ArrayList<>();

    boolean fits(Term p, Term t) {
      if (p.kind == Kind.FREE) {
        return becomes(p, t);
      }
      if (p.kind != t.kind) {
        return false;
      }
      switch (p.kind) {
        case CONSTANT:
          return p.number == t.number && PlainLoom.fits(p.type, t.type, put);
        case BOUND:
          return patternBinders.lastIndexOf(p.binder) == termBinders.lastIndexOf(t.binder);
        case APPLICATION:
          return fits(p.left, t.left) && fits(p.right, t.right);
        default:
          if (!PlainLoom.fits(p.binder.type, t.binder.type, put)) {
            return false;
          }
          patternBinders.add(p.binder);
          termBinders.add(t.binder);
          boolean bodies = fits(p.left, t.left);
          patternBinders.remove(patternBinders.size() - 1);
          termBinders.remove(termBinders.size() - 1);
          return bodies;
      }
    }

    private boolean becomes(Term p, Term t) {
      if (!PlainLoom.fits(p.type, t.type, put) || !closed(t, new ArrayList<>())) {
        return false;
      }
      for (int i = 0; i < variables.size(); i++) {
        if (p.isFree(variables.get(i))) {
          return alike(made.get(i), t, new ArrayList<>(), new ArrayList<>());
        }
      }
      variables.add(p);
      made.add(t);
      return true;
    }
  }

  private static boolean closed(Term t, List<Binder> around) {
    if (t.kind == Kind.BOUND) {
      return around.contains(t.binder);
    }
    if (t.kind == Kind.ABSTRACTION) {
      around.add(t.binder);
      boolean answer = closed(t.left, around);
      around.remove(around.size() - 1);
      return answer;
    }
    return t.kind != Kind.APPLICATION || closed(t.left, around) && closed(t.right, around);
  }

  private static boolean fits(Type p, Type t, java.util.Map<Integer, Type> put) {
    if (p.head < 0) {
      Type before = put.putIfAbsent(p.head, t);
      return before == null || before.equals(t);
    }
    if (p.head != t.head) {
      return false;
    }
    for (int i = 0; i < p.takes.size(); i++) {
      if (!fits(p.takes.get(i), t.takes.get(i), put)) {
        return false;
      }
    }
    return true;
  }

  private static boolean alike(Term t, Term u, List<Binder> ofT, List<Binder> ofU) {
    if (t.kind != u.kind || !t.type.equals(u.type)) {
      return false;
    }
    switch (t.kind) {
      case BOUND:
        return ofT.lastIndexOf(t.binder) == ofU.lastIndexOf(u.binder);
      case APPLICATION:
        return alike(t.left, u.left, ofT, ofU) && alike(t.right, u.right, ofT, ofU);
      case ABSTRACTION:
        ofT.add(t.binder);
        ofU.add(u.binder);
        boolean answer = alike(t.left, u.left, ofT, ofU);
        ofT.remove(ofT.size() - 1);
        ofU.remove(ofU.size() - 1);
        return answer;
      default:
        return t.number == u.number;
    }
  }

  private static boolean holds(Term t, Term v) {
    return t.isFree(v)
        || t.left != null && holds(t.left, v)
        || t.right != null && holds(t.right, v);
  }

  private static Term replaced(Term t, Term v, Term s) {
    switch (t.kind) {
      case APPLICATION:
        return Term.application(replaced(t.left, v, s), replaced(t.right, v, s));
      case ABSTRACTION:
        return Term.abstraction(t.binder, replaced(t.left, v, s));
      default:
        return t.isFree(v) ? s : t;
    }
  }

  private static Term opened(Term t, Binder binder, Term s) {
    switch (t.kind) {
      case APPLICATION:
        return Term.application(opened(t.left, binder, s), opened(t.right, binder, s));
      case ABSTRACTION:
        return t.binder == binder ? t : Term.abstraction(t.binder, opened(t.left, binder, s));
      default:
        return t.kind == Kind.BOUND && t.binder == binder ? s : t;
    }
  }

  private static Type retyped(Type type, int n, Type becomes) {
    if (type.head < 0) {
      return type.head == -1 - n ? becomes : type;
    }
    List<Type> taken = new ArrayList<>();
    for (Type part : type.takes) {
      taken.add(retyped(part, n, becomes));
    }
    return new Type(type.head, taken);
  }

  private static Term retyped(Term t, int n, Type becomes, List<Binder> from, List<Binder> to) {
    switch (t.kind) {
      case FREE:
        return Term.free(t.number, retyped(t.type, n, becomes));
      case CONSTANT:
        return Term.constant(t.number, retyped(t.type, n, becomes));
      case BOUND:
        return Term.bound(to.get(from.lastIndexOf(t.binder)));
      case APPLICATION:
        return Term.application(
            retyped(t.left, n, becomes, from, to), retyped(t.right, n, becomes, from, to));
      default:
        Binder binder = new Binder(retyped(t.binder.type, n, becomes));
        from.add(t.binder);
        to.add(binder);
        Term body = retyped(t.left, n, becomes, from, to);
        from.remove(from.size() - 1);
        to.remove(to.size() - 1);
        return Term.abstraction(binder, body);
    }
  }

  private static void list(Type type, List<Integer> symbols) {
    symbols.add(type.head);
    for (Type taken : type.takes) {
      list(taken, symbols);
    }
  }

  private static void list(Term t, List<Binder> around, List<Integer> symbols) {
    switch (t.kind) {
      case FREE:
        symbols.add(4 * t.number + 1);
        break;
      case CONSTANT:
        symbols.add(4 * t.number + 2);
        break;
      case BOUND:
        symbols.add(4 * (around.size() - 1 - around.lastIndexOf(t.binder)));
        break;
      case APPLICATION:
        symbols.add(-1);
        list(t.left, around, symbols);
        list(t.right, around, symbols);
        break;
      default:
        symbols.add(-2);
        around.add(t.binder);
        list(t.left, around, symbols);
        around.remove(around.size() - 1);
        break;
    }
  }

  private int keep(Type type) {
    Set<Type> more = new HashSet<>();
    state(type.fitsLimits() && typeSymbols + type.symbols <= 6000);
    gather(type, more);
    state(different.size() + more.size() <= 8000);
    different.addAll(more);
    typeSymbols += type.symbols;
    types.add(type);
    return types.size() - 1;
  }

  private int keep(Term t) {
    Set<Type> more = new HashSet<>();
    state(t.symbols <= 4000 && t.height <= 120 && termSymbols + t.symbols <= 30000);
    state(gather(t, more));
    state(different.size() + more.size() <= 8000);
    different.addAll(more);
    termSymbols += t.symbols;
    terms.add(t);
    return terms.size() - 1;
  }

  private void gather(Type type, Set<Type> more) {
    if (!different.contains(type) && more.add(type)) {
      for (Type taken : type.takes) {
        gather(taken, more);
      }
    }
  }

  private boolean gather(Term t, Set<Type> more) {
    if (!t.type.fitsLimits()) {
      return false;
    }
    gather(t.type, more);
    return (t.left == null || gather(t.left, more)) && (t.right == null || gather(t.right, more));
  }

  private Type typeAt(int handle) {
    index(handle >= 0 && handle < types.size());
    return types.get(handle);
  }

  private Term termAt(int handle) {
    index(handle >= 0 && handle < terms.size());
    return terms.get(handle);
  }

  private static void index(boolean holds) {
    if (!holds) {
      throw new IndexOutOfBoundsException();
    }
  }

  private static void argument(boolean holds) {
    if (!holds) {
      throw new IllegalArgumentException();
    }
  }

  private static void state(boolean holds) {
    if (!holds) {
      throw new IllegalStateException();
    }
  }
}
