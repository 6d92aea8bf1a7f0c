import java.util.function.Supplier;

/**
 * A sentence of the document, and calls at its edge. Each call is made on an object of its own, so
 * that the last one that is allowed and the first one that is not start from the same state.
 */
final class Edge<S extends Scene> {
  interface Step<S> {
    void on(S scene);
  }

  interface StepWith<S> {
    void on(S scene, int argument);
  }

  private final String sentence;
  private final Supplier<S> scenes;

  Edge(String section, String beginning, Supplier<S> scenes) {
    Document.quote(section, beginning);
    this.sentence = section + ": " + beginning;
    this.scenes = scenes;
  }

  /** The step's last call answers so. */
  Edge<S> answers(String what, Step<S> step, int answer) {
    S scene = scenes.get();
    step.on(scene);
    Checks.due(name(what), scene.twin.latest, Integer.toString(answer));
    scene.askAll();
    return this;
  }

  /** The step's last call answers; the second model has checked what. */
  Edge<S> allowed(String what, Step<S> step) {
    S scene = scenes.get();
    step.on(scene);
    String latest = scene.twin.latest;
    Checks.due(name(what), latest.startsWith("throws") ? latest : "allowed", "allowed");
    scene.askAll();
    return this;
  }

  /** The step is one call: it throws, throws so again, and leaves all as it was. */
  Edge<S> refused(String what, Step<S> step, String exception) {
    S scene = scenes.get();
    int before = scene.twin.calls();
    step.on(scene);
    Checks.due(name(what), scene.twin.latest, exception);
    Checks.due(name(what) + ", calls", Integer.toString(scene.twin.calls() - before), "1");
    step.on(scene);
    Checks.due(name(what) + ", again", scene.twin.latest, exception);
    scene.askAll();
    return this;
  }

  /** From the least to the most the argument is right, and what lies outside is refused. */
  Edge<S> within(int least, int most, String exception, StepWith<S> step) {
    allowed("the least, " + least, s -> step.on(s, least));
    allowed("the most, " + most, s -> step.on(s, most));
    for (int wrong : new int[] {least - 1, most + 1, Integer.MIN_VALUE, Integer.MAX_VALUE}) {
      refused("outside, " + wrong, s -> step.on(s, wrong), exception);
    }
    return this;
  }

  Edge<S> noType(String what, StepWith<S> step) {
    return noHandle(what, scenes.get().types(), step);
  }

  Edge<S> noTerm(String what, StepWith<S> step) {
    return noHandle(what, scenes.get().terms(), step);
  }

  private Edge<S> noHandle(String what, int count, StepWith<S> step) {
    for (int wrong : new int[] {count, -1, Integer.MIN_VALUE, Integer.MAX_VALUE}) {
      refused(what + ", " + wrong, s -> step.on(s, wrong), Checks.INDEX);
    }
    return this;
  }

  private String name(String what) {
    return sentence + " [" + what + "]";
  }
}
