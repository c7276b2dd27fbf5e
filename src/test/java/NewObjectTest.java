import java.lang.reflect.Constructor;
import java.lang.reflect.Field;
import java.lang.reflect.Method;
import java.lang.reflect.Modifier;
import java.util.Arrays;
import java.util.Set;
import java.util.TreeSet;

/** Promise 1, and the public face. */
public final class NewObjectTest extends DeskCheck {
  public static void main(String[] args) {
    answersOfANewObject();
    objectsShareNothing();
    face();
    finish();
  }

  private static void answersOfANewObject() {
    PropagationDesk desk = new PropagationDesk();
    dueValues("new", desk, 0, 0, 0, 0);
    dueCounts("new", desk, 0, 0, 0, 0);
    dueEvents("new", desk);
    due("event(0)", desk.event(0), -1);
    due("amount(0)", desk.amount(0), 0);
    due("calls()", desk.calls(), 0);
    due("size(0)", desk.size(0), 10);
    due("size(1)", desk.size(1), 0);
    due("invoke(0)", desk.invoke(0), -1);
    due("rule(0, 0, true)", desk.rule(0, 0, true), false);
    due("step(0, 5, 0, 0)", desk.step(0, ONLY, 0, 0), -1);
    due("rolls(0, 3)", desk.rolls(0, 3), false);
    due("is(10, 0)", desk.is(10, 0), false);
    due("kind(10)", desk.kind(10), -1);
  }

  private static void objectsShareNothing() {
    PropagationDesk used = new PropagationDesk();
    used.kind(0);
    used.set(2, 5);
    used.invoke(make(used, REQUIRED, PUT, 1, 3));
    answersOfANewObject();
  }

  private static final String[] FACE = {
      "public int PropagationDesk.kind(int)",
      "public int PropagationDesk.method(int)",
      "public boolean PropagationDesk.rule(int,int,boolean)",
      "public int PropagationDesk.step(int,int,int,int)",
      "public int PropagationDesk.invoke(int)",
      "public boolean PropagationDesk.set(int,int)",
      "public int PropagationDesk.value(int)",
      "public boolean PropagationDesk.is(int,int)",
      "public boolean PropagationDesk.rolls(int,int)",
      "public int PropagationDesk.events()",
      "public int PropagationDesk.event(int)",
      "public int PropagationDesk.amount(int)",
      "public int PropagationDesk.calls()",
      "public int PropagationDesk.count(int)",
      "public int PropagationDesk.size(int)"};

  private static void face() {
    Set<String> found = new TreeSet<>();
    Set<String> names = new TreeSet<>();
    for (Method method : PropagationDesk.class.getDeclaredMethods()) {
      if (!Modifier.isPrivate(method.getModifiers())) {
        found.add(method.toString());
        names.add(method.getName());
      }
    }
    due("the face has just the document's methods, not " + found,
        found.equals(new TreeSet<>(Arrays.asList(FACE))), true);
    for (Method method : PropagationDesk.class.getDeclaredMethods()) {
      boolean hidden = Modifier.isPrivate(method.getModifiers());
      due("private " + method.getName() + " has a public name", hidden && names.contains(method.getName()), false);
    }
    for (Field field : PropagationDesk.class.getDeclaredFields()) {
      due(field.getName() + " is private", Modifier.isPrivate(field.getModifiers()), true);
    }
    Constructor<?>[] constructors = PropagationDesk.class.getDeclaredConstructors();
    due("there is one constructor", constructors.length, 1);
    due("it is public and takes nothing", constructors[0].toString().equals("public PropagationDesk()"), true);
    due("the class is public and final", Modifier.isPublic(PropagationDesk.class.getModifiers())
        && Modifier.isFinal(PropagationDesk.class.getModifiers()), true);
  }
}
