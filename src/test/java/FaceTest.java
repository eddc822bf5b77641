import java.lang.reflect.Constructor;
import java.lang.reflect.Field;
import java.lang.reflect.Method;
import java.lang.reflect.Modifier;
import java.util.TreeSet;

// The public face: just the constants, the constructor and the methods of the document, with their exceptions.
public final class FaceTest {
    private static final String FACE = String.join("\n",
        "public FridgeGossip()",
        "public boolean isSpoilt(int,int) I",
        "public boolean isUnfit(int,int) I",
        "public int bake(int,int) I S",
        "public int cake(int,int) I",
        "public int cakes()",
        "public int claims(int,int) I",
        "public int clock(int) I",
        "public int count(int,int) I",
        "public int countByAll(int) I",
        "public int drop(int,int) I S",
        "public int guest(int,int,int,int,int) I A S",
        "public int guests(int,int) I A",
        "public int keep(int,int) I S",
        "public int keptByAll(int) I",
        "public int keptFor(int,int) I",
        "public int known(int) I",
        "public int lacks(int,int,int) I",
        "public int meet(int,int) I A",
        "public int missing(int,int) I",
        "public int plan(int,int,int) I A S",
        "public int put(int,int) I S",
        "public int setNeed(int,int,int) I A",
        "public int take(int,int) I S",
        "public int where(int,int) I",
        "public int whereByAll(int) I",
        "public int words()",
        "public static final int BAKED",
        "public static final int DROPPED",
        "public static final int NONE",
        "public static final int OPEN",
        "public static final int UNKNOWN");

    public static void main(String[] args) {
        Check.due("the class", Modifier.toString(FridgeGossip.class.getModifiers()), "public final");
        TreeSet<String> face = new TreeSet<>();
        for (Field field : FridgeGossip.class.getDeclaredFields()) {
            add(face, field.getModifiers(), "int " + field.getName(), new Class<?>[0]);
        }
        for (Constructor<?> made : FridgeGossip.class.getDeclaredConstructors()) {
            add(face, made.getModifiers(), "FridgeGossip" + list(made.getParameterTypes()), made.getExceptionTypes());
        }
        for (Method method : FridgeGossip.class.getDeclaredMethods()) {
            if (!method.isSynthetic()) {
                add(face, method.getModifiers(), method.getReturnType().getName() + " " + method.getName()
                        + list(method.getParameterTypes()), method.getExceptionTypes());
            }
        }
        Check.due("the face", String.join("\n", face), FACE);
        ownNames();
        Check.due("NONE", FridgeGossip.NONE, -1);
        Check.due("UNKNOWN", FridgeGossip.UNKNOWN, 0);
        Check.due("OPEN", FridgeGossip.OPEN, 1);
        Check.due("DROPPED", FridgeGossip.DROPPED, 2);
        Check.due("BAKED", FridgeGossip.BAKED, 3);
        Check.end();
    }

    /** Rule 1: no method of the program's own bears the name of one of the face. */
    private static void ownNames() {
        TreeSet<String> names = new TreeSet<>();
        for (Method method : FridgeGossip.class.getDeclaredMethods()) {
            if (Modifier.isPublic(method.getModifiers())) {
                names.add(method.getName());
            }
        }
        for (Method method : FridgeGossip.class.getDeclaredMethods()) {
            Check.due("own " + method.getName(), !Modifier.isPublic(method.getModifiers())
                    && names.contains(method.getName()), false);
        }
        for (Class<?> inside : FridgeGossip.class.getDeclaredClasses()) {
            Check.due("static, not public: " + inside.getName(), Modifier.isStatic(inside.getModifiers())
                    && !Modifier.isPublic(inside.getModifiers()), true);
            for (Method method : inside.getDeclaredMethods()) {
                Check.due("inside " + method.getName(), names.contains(method.getName()), false);
            }
        }
    }

    private static void add(TreeSet<String> face, int modifiers, String member, Class<?>[] exceptions) {
        if (Modifier.isPrivate(modifiers)) {
            return;
        }
        StringBuilder line = new StringBuilder(Modifier.toString(modifiers)).append(' ').append(member);
        for (Class<?> exception : exceptions) {
            line.append(exception == IndexOutOfBoundsException.class ? " I"
                    : exception == IllegalArgumentException.class ? " A"
                    : exception == IllegalStateException.class ? " S" : " " + exception.getName());
        }
        face.add(line.toString());
    }

    private static String list(Class<?>[] types) {
        StringBuilder text = new StringBuilder("(");
        for (int i = 0; i < types.length; i++) {
            text.append(i == 0 ? "" : ",").append(types[i].getName());
        }
        return text.append(')').toString();
    }
}
