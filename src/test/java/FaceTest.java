import java.lang.reflect.Constructor;
import java.lang.reflect.Field;
import java.lang.reflect.Method;
import java.lang.reflect.Modifier;
import java.util.TreeSet;

/** The public face, and rule 1 of LANGUAGE.md: these members and no others that are not private. */
public final class FaceTest {
    private static final Check CHECK = new Check();

    public static void main(String[] args) {
        Class<?> c = StageCycles.class;
        CHECK.due("modifiers", Modifier.toString(c.getModifiers()), "public final");
        TreeSet<String> got = new TreeSet<>();
        for (Method method : c.getDeclaredMethods()) {
            if (!Modifier.isPrivate(method.getModifiers())) {
                got.add(method.toString());
            }
        }
        for (Constructor<?> constructor : c.getDeclaredConstructors()) {
            got.add(constructor.toString());
        }
        for (Field field : c.getDeclaredFields()) {
            if (!Modifier.isPrivate(field.getModifiers())) {
                got.add(field.toString());
            }
        }
        CHECK.due("members", String.join("\n", got), String.join("\n", due()));
        for (Class<?> inside : c.getDeclaredClasses()) {
            int m = inside.getModifiers();
            boolean fine = Modifier.isStatic(m) && !Modifier.isPublic(m) && !Modifier.isProtected(m);
            CHECK.due(inside + " is static, and private or package-visible", fine ? 1 : 0, 1);
        }
        CHECK.end();
    }

    private static TreeSet<String> due() {
        String index = " throws java.lang.IndexOutOfBoundsException";
        String both = " throws java.lang.IllegalArgumentException,java.lang.IllegalStateException";
        TreeSet<String> due = new TreeSet<>();
        due.add("public static final int StageCycles.NONE");
        due.add("public StageCycles(int,int,int,int,int,int)");
        due.add("public int StageCycles.word(int,int,int,int,int)" + both + ",java.lang.UnsupportedOperationException");
        due.add("public boolean StageCycles.set(boolean,int)" + both);
        due.add("public int StageCycles.clear()");
        due.add("public int StageCycles.run(int)" + both);
        due.add("public int StageCycles.stage(int,int)" + index);
        due.add("public int StageCycles.committed(int,int)" + index);
        due.add("public int StageCycles.register(int)" + index);
        due.add("public int StageCycles.memory(int)" + index);
        due.add("public int StageCycles.cause(int)" + index);
        due.add("public int StageCycles.count(int)");
        return due;
    }
}
