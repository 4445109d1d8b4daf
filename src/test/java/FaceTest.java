import java.lang.reflect.Constructor;
import java.lang.reflect.Field;
import java.lang.reflect.Method;
import java.lang.reflect.Modifier;
import java.util.Set;
import java.util.TreeSet;

/** The public face is the document's, and nothing else can be seen from outside. */
public final class FaceTest {
    private static final String[] FACE = {
        "public static final int NetWires.NONE",
        "public NetWires()",
        "public int NetWires.feed(long,int) throws java.lang.IllegalArgumentException,java.lang.IllegalStateException",
        "public int NetWires.send(int,int) throws java.lang.IndexOutOfBoundsException",
        "public boolean NetWires.alarm(int,int) throws java.lang.IndexOutOfBoundsException,java.lang.IllegalArgumentException",
        "public boolean NetWires.noAlarm(int) throws java.lang.IndexOutOfBoundsException",
        "public boolean NetWires.sync(int,int) throws java.lang.IndexOutOfBoundsException,java.lang.IllegalArgumentException",
        "public boolean NetWires.noSync(int) throws java.lang.IndexOutOfBoundsException",
        "public int NetWires.step()",
        "public int NetWires.run(int) throws java.lang.IllegalArgumentException",
        "public int NetWires.delay(int,int,int) throws java.lang.IndexOutOfBoundsException,java.lang.IllegalArgumentException",
        "public int NetWires.part(int) throws java.lang.IllegalArgumentException",
        "public int NetWires.down(int) throws java.lang.IllegalArgumentException",
        "public void NetWires.noise(int,int,int,long) throws java.lang.IllegalArgumentException",
        "public boolean NetWires.meddle(int,int,int) throws java.lang.IllegalArgumentException",
        "public int NetWires.message(int,int)",
        "public int NetWires.messageAt(int,int) throws java.lang.IndexOutOfBoundsException",
        "public int NetWires.happened(int,int)",
        "public int NetWires.byteAt(int) throws java.lang.IndexOutOfBoundsException",
        "public int NetWires.when(int,int) throws java.lang.IndexOutOfBoundsException",
        "public int NetWires.count(int)",
    };

    public static void main(String[] args) {
        Checks checks = new Checks();
        Set<String> due = new TreeSet<>(Set.of(FACE));
        Set<String> seen = visibleMembers();
        for (String member : due) {
            checks.holds("the face has " + member + ":", seen.contains(member));
        }
        for (String member : seen) {
            checks.holds("the document has " + member + ":", due.contains(member));
        }
        int modifiers = NetWires.class.getModifiers();
        checks.holds("public final:", Modifier.isPublic(modifiers) && Modifier.isFinal(modifiers));
        checks.holds("no package:", NetWires.class.getPackageName().isEmpty());
        checks.same("NONE", NetWires.NONE, -1);
        checkInside(checks);
        checks.end();
    }

    private static Set<String> visibleMembers() {
        Set<String> seen = new TreeSet<>();
        for (Field field : NetWires.class.getDeclaredFields()) {
            if (!Modifier.isPrivate(field.getModifiers())) {
                seen.add(field.toString());
            }
        }
        for (Constructor<?> constructor : NetWires.class.getDeclaredConstructors()) {
            if (!Modifier.isPrivate(constructor.getModifiers())) {
                seen.add(constructor.toString());
            }
        }
        for (Method method : NetWires.class.getDeclaredMethods()) {
            if (!Modifier.isPrivate(method.getModifiers())) {
                seen.add(method.toString());
            }
        }
        return seen;
    }

    /** Rules 1 and 5 of LANGUAGE.md: names of private methods, and static fields. */
    private static void checkInside(Checks checks) {
        Set<String> publicNames = new TreeSet<>();
        for (Method method : NetWires.class.getMethods()) {
            if (method.getDeclaringClass() == NetWires.class) {
                publicNames.add(method.getName());
            }
        }
        for (Method method : NetWires.class.getDeclaredMethods()) {
            if (Modifier.isPrivate(method.getModifiers())) {
                checks.fails("a private method is named " + method.getName() + ":", publicNames.contains(method.getName()));
            }
        }
        for (Field field : NetWires.class.getDeclaredFields()) {
            if (Modifier.isStatic(field.getModifiers())) {
                checks.holds("final: " + field.getName(), Modifier.isFinal(field.getModifiers()));
            }
        }
        for (Class<?> inside : NetWires.class.getDeclaredClasses()) {
            checks.holds("static: " + inside, Modifier.isStatic(inside.getModifiers()));
            checks.fails("public: " + inside, Modifier.isPublic(inside.getModifiers()));
        }
    }
}
