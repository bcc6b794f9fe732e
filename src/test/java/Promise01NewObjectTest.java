import java.lang.reflect.Constructor;
import java.lang.reflect.Field;
import java.lang.reflect.Member;
import java.lang.reflect.Method;
import java.lang.reflect.Modifier;
import java.util.Arrays;
import java.util.TreeSet;

public final class Promise01NewObjectTest {
  private static final Checks checks = new Checks("promise 1, a new object");

  public static void main(String[] args) {
    allIsNought();
    keysHaveNoRateAndNoBurst();
    lengthIsTwoSeconds();
    weightsAreOne();
    speedsAreThousand();
    objectsShareNothing();
    faceIsThatOfTheDocument();
    faceTellsWhatItThrows();
    classesInsideAreHidden();
    checks.end();
  }

  private static void allIsNought() {
    LeaseGates x = new LeaseGates();
    checks.due("NONE", LeaseGates.NONE, -1);
    checks.due("sent", x.sent(), 0);
    for (int gate = LeaseGates.NONE; gate < 6; gate++) {
      checks.due("clock of " + gate, x.clock(gate), 0);
    }
    for (int key = 0; key < 8; key++) {
      checks.due("root of " + key, Scene.root(x, key), 0, 0, 0, 0);
      for (int gate = 0; gate < 6; gate++) {
        checks.due("gate " + gate + " of " + key, Scene.gate(x, gate, key), 0, 0, 0, 0, 0, 0, 0);
      }
    }
    checks.refused(x, "carry(0)", () -> x.carry(0));
    checks.refused(x, "drop(0)", () -> x.drop(0));
    checks.refused(x, "message(0, 0)", () -> x.message(0, 0));
  }

  private static void keysHaveNoRateAndNoBurst() {
    LeaseGates x = new LeaseGates();
    x.tick(5000);
    for (int key = 0; key < 8; key++) {
      checks.due("LEVEL of " + key + " without a RATE", x.root(key, 1), 0);
    }
    checks.due("work of a gate that wants nothing", x.work(0), 0);
  }

  private static void lengthIsTwoSeconds() {
    LeaseGates x = Scene.full(10, 0);
    Scene.lend(x, 0, 0, 1);
    x.tick(1999);
    checks.due("LOANS after 1999", x.root(0, 3), 1);
    x.tick(1);
    checks.due("LOANS after 2000", x.root(0, 3), 0);
  }

  private static void weightsAreOne() {
    LeaseGates x = Scene.full(100, 0);
    for (int gate = 0; gate < 6; gate++) {
      Scene.answer(x, Scene.ask(x, gate, 0, 1000));
    }
    int[] due = {100, 0, 0, 0, 0, 0};
    for (int gate = 0; gate < 6; gate++) {
      checks.due("grant to " + gate, x.message(2 * gate + 1, 3), due[gate]);
    }
    Scene.fill(x, 1, 60, 0);
    Scene.answer(x, Scene.ask(x, 0, 1, 1));
    int second = Scene.answer(x, Scene.ask(x, 1, 1, 1000));
    checks.due("half of what is free", x.message(second, 3), 29);
  }

  private static void speedsAreThousand() {
    LeaseGates x = new LeaseGates();
    x.tick(4321);
    for (int gate = LeaseGates.NONE; gate < 6; gate++) {
      checks.due("clock of " + gate, x.clock(gate), 4321);
    }
  }

  private static void objectsShareNothing() {
    LeaseGates x = Scene.full(10, 100);
    LeaseGates y = new LeaseGates();
    String before = Scene.all(y);
    Scene.lend(x, 0, 0, 3);
    x.tick(77);
    checks.due("another object", Scene.all(y), before);
  }

  private static void faceIsThatOfTheDocument() {
    TreeSet<String> face = new TreeSet<>();
    for (Field field : LeaseGates.class.getDeclaredFields()) {
      add(face, field, field.getType() + " " + field.getName());
    }
    for (Constructor<?> constructor : LeaseGates.class.getDeclaredConstructors()) {
      add(face, constructor, "new" + Arrays.toString(constructor.getParameterTypes()));
    }
    for (Method method : LeaseGates.class.getDeclaredMethods()) {
      add(face, method, method.getReturnType() + " " + method.getName() + Arrays.toString(method.getParameterTypes()));
    }
    TreeSet<String> due = new TreeSet<>(Arrays.asList(
        "int NONE", "new[]", "void key[int, int, int]", "void length[int]", "void weight[int, int, int]",
        "void speed[int, int]", "boolean take[int, int, int]", "int work[int]", "boolean carry[int]",
        "void drop[int]", "void tick[int]", "int restart[int]", "int root[int, int]", "int gate[int, int, int]",
        "int message[int, int]", "int sent[]", "int clock[int]"));
    checks.due("face", face.toString(), due.toString());
    checks.due("final", Modifier.isFinal(LeaseGates.class.getModifiers()), true);
  }

  private static void faceTellsWhatItThrows() {
    for (Method method : LeaseGates.class.getMethods()) {
      if (method.getDeclaringClass() == LeaseGates.class) {
        checks.due(method.getName() + " throws", Arrays.toString(method.getExceptionTypes()),
            method.getName().equals("sent") ? "[]" : "[class java.lang.IllegalArgumentException]");
        checks.due(method.getName() + " is of an object", Modifier.isStatic(method.getModifiers()), false);
      }
    }
  }

  private static void classesInsideAreHidden() {
    for (Class<?> inside : LeaseGates.class.getDeclaredClasses()) {
      int kind = inside.getModifiers();
      checks.due(inside + " is hidden", Modifier.isPublic(kind) || Modifier.isProtected(kind), false);
      checks.due(inside + " is static", Modifier.isStatic(kind), true);
    }
  }

  private static void add(TreeSet<String> face, Member member, String text) {
    if (!Modifier.isPrivate(member.getModifiers()) && !member.isSynthetic()) {
      face.add(text);
    }
  }
}
