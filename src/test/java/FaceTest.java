import java.lang.reflect.Constructor;
import java.lang.reflect.Field;
import java.lang.reflect.Method;
import java.lang.reflect.Modifier;
import java.util.Set;
import java.util.TreeSet;

/** The class shows the document's face and nothing else, and no call of it throws. */
public final class FaceTest {
    private static final String[] METHODS = {
        "int set(int, int)", "int add(int, long)", "int insert(int, int, int)",
        "int remove(int, int)", "int move(int, int, int)", "int node(int)", "int unlink(int)",
        "int link(int, int)", "int undo(int, boolean)", "int redo(int)", "int taken(int)",
        "boolean dependsOn(int, int)", "int undoLast()", "int redoNext()", "int squash()",
        "int active(int)", "int count(int)", "int history(int, int)", "int cell(int)",
        "long counter(int)", "int length(int)", "int element(int, int)", "int value(int)",
        "int parent(int)"
    };
    private static final int[] ODD = {
        Integer.MIN_VALUE, -200, -2, -1, 0, 1, 2, 3, 4, 8, 39, 40, 199, 200, 201, 1000, Integer.MAX_VALUE
    };

    private static int wrong = 0;

    private static void due(String what, boolean holds) {
        if (!holds) {
            wrong++;
            System.out.println(what);
        }
    }

    public static void main(String[] args) throws Exception {
        shape();
        members();
        oddArguments(new UndoMemory());
        oddArguments(used());
        oddArguments(full());
        longLife();
        System.out.println(wrong == 0 ? "the face is as due" : wrong + " faults");
        if (wrong != 0) {
            System.exit(1);
        }
    }

    private static void shape() {
        int modifiers = UndoMemory.class.getModifiers();
        due("the class is not public and final", Modifier.isPublic(modifiers) && Modifier.isFinal(modifiers));
        Constructor<?>[] constructors = UndoMemory.class.getDeclaredConstructors();
        due("there is not one constructor", constructors.length == 1);
        due("the constructor is not public", Modifier.isPublic(constructors[0].getModifiers()));
        due("the constructor has parameters", constructors[0].getParameterCount() == 0);
        for (Class<?> inside : UndoMemory.class.getDeclaredClasses()) {
            int inner = inside.getModifiers();
            due(inside + " is shown", !Modifier.isPublic(inner) && !Modifier.isProtected(inner));
        }
    }

    private static void members() throws Exception {
        Set<String> shown = new TreeSet<>();
        Set<String> names = new TreeSet<>();
        for (Method method : UndoMemory.class.getDeclaredMethods()) {
            if (!Modifier.isPrivate(method.getModifiers())) {
                shown.add(told(method));
                names.add(method.getName());
                due(method + " is not public", Modifier.isPublic(method.getModifiers()));
            }
        }
        due("the methods shown are " + shown, shown.equals(new TreeSet<>(Set.of(METHODS))));
        for (Method method : UndoMemory.class.getDeclaredMethods()) {
            boolean hidden = Modifier.isPrivate(method.getModifiers());
            due("a private method bears a public name: " + method, !hidden || !names.contains(method.getName()));
        }
        for (Field field : UndoMemory.class.getDeclaredFields()) {
            boolean hidden = Modifier.isPrivate(field.getModifiers());
            due(field + " is shown", hidden || field.getName().equals("NONE"));
        }
        Field none = UndoMemory.class.getDeclaredField("NONE");
        due("NONE is no constant", Modifier.isStatic(none.getModifiers()) && Modifier.isFinal(none.getModifiers()));
        due("NONE is not public", Modifier.isPublic(none.getModifiers()));
        due("NONE is not -1", UndoMemory.NONE == -1);
    }

    private static String told(Method method) {
        StringBuilder text = new StringBuilder();
        text.append(method.getReturnType().getName()).append(' ').append(method.getName()).append('(');
        for (Class<?> type : method.getParameterTypes()) {
            text.append(text.charAt(text.length() - 1) == '(' ? "" : ", ").append(type.getName());
        }
        return text.append(')').toString();
    }

    private static UndoMemory used() {
        UndoMemory x = new UndoMemory();
        x.insert(0, 0, 1);
        x.insert(0, 1, 2);
        x.move(0, 0, 1);
        x.node(0);
        x.node(4);
        x.unlink(4);
        x.undo(1, true);
        return x;
    }

    private static UndoMemory full() {
        UndoMemory x = new UndoMemory();
        for (int i = 0; i < 40; i++) {
            x.insert(i % 2, i / 2, i);
        }
        for (int i = 40; i < 200; i++) {
            x.node(i == 40 ? 0 : i);
        }
        return x;
    }

    private static void oddArguments(UndoMemory x) {
        try {
            for (int a : ODD) {
                callWithOne(x, a);
                for (int b : ODD) {
                    callWithTwo(x, a, b);
                    for (int c : ODD) {
                        x.insert(a, b, c);
                        x.move(a, b, c);
                    }
                }
            }
            x.undoLast();
            x.redoNext();
            x.squash();
        } catch (RuntimeException e) {
            due("a call threw " + e, false);
        }
    }

    private static void callWithOne(UndoMemory x, int a) {
        x.node(a);
        x.unlink(a);
        x.redo(a);
        x.taken(a);
        x.active(a);
        x.count(a);
        x.cell(a);
        x.counter(a);
        x.length(a);
        x.value(a);
        x.parent(a);
    }

    private static void callWithTwo(UndoMemory x, int a, int b) {
        x.set(a, b);
        x.add(a, b);
        x.remove(a, b);
        x.link(a, b);
        x.undo(a, b > 0);
        x.dependsOn(a, b);
        x.history(a, b);
        x.element(a, b);
    }

    /** What is answered after the 512th call is free, but nothing may be thrown then either. */
    private static void longLife() {
        UndoMemory x = new UndoMemory();
        try {
            for (int i = 0; i < 20000; i++) {
                x.insert(i % 3, x.length(i % 3), i);
                x.node(0);
                x.move(i % 3, 0, x.length(i % 3) - 1);
                x.link(x.count(1), 0);
                if (i % 5 == 0) {
                    x.undo(x.history(i % 50, 0), true);
                    x.undoLast();
                }
                if (i % 60 == 0) {
                    x.squash();
                }
            }
        } catch (RuntimeException e) {
            due("a late call threw " + e, false);
        }
    }
}
