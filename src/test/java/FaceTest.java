import java.io.IOException;
import java.lang.management.ManagementFactory;
import java.lang.reflect.Array;
import java.lang.reflect.Field;
import java.lang.reflect.Method;
import java.lang.reflect.Modifier;
import java.nio.file.Files;
import java.nio.file.Path;
import java.util.ArrayDeque;
import java.util.Collections;
import java.util.Deque;
import java.util.HashSet;
import java.util.IdentityHashMap;
import java.util.List;
import java.util.Set;
import java.util.TreeSet;

/** The public face, the room that objects and calls take, and what can be seen of LANGUAGE.md in the source. */
public final class FaceTest {
    private static final Set<String> FACE = Set.of(
        "int add(int,int)", "void clear()", "boolean start(int,int)", "int explore(int)", "int inputs(int)",
        "int witness(int)", "int end(int,int)", "int step(int,int,int)", "int left(int,int)", "int finding(int,int)",
        "int risk(int,int,int)", "int replay(int,int)", "int replayed(int)");

    /** The room of one run, and how many calls it has at the most: even if each one made an object. */
    private static final int MOST_OBJECTS = 600_000;
    private static final int MOST_ELEMENTS = 7_300_000;
    private static final int MOST_CALLS = 512;

    public static void main(String[] args) throws IOException, IllegalAccessException {
        face();
        members();
        roomOfAnObject();
        roomOfCalls();
        source();
        Check.finish();
    }

    private static void face() {
        Set<String> seen = new TreeSet<>();
        for (Method m : ContractProbe.class.getDeclaredMethods()) {
            if (!Modifier.isPrivate(m.getModifiers())) {
                Check.isTrue(m.getName() + " is public and an object's", m.getModifiers() == Modifier.PUBLIC);
                String text = m.toString().replace("public ", "").replace("ContractProbe.", "");
                seen.add(text);
            }
        }
        Check.isTrue("the methods of the face: " + seen, seen.equals(FACE));
        Check.due("one constructor", ContractProbe.class.getDeclaredConstructors().length, 1);
        Check.due("a public one", ContractProbe.class.getConstructors().length, 1);
        Check.isTrue("public and final", ContractProbe.class.getModifiers() == (Modifier.PUBLIC | Modifier.FINAL));
    }

    private static void members() {
        Set<String> publicNames = new HashSet<>();
        for (Method m : ContractProbe.class.getMethods()) {
            publicNames.add(m.getName());
        }
        Check.isTrue("at most twelve classes", ContractProbe.class.getDeclaredClasses().length < 12);
        lookAtFields(ContractProbe.class);
        for (Class<?> inside : ContractProbe.class.getDeclaredClasses()) {
            Check.isTrue(inside + " is static", Modifier.isStatic(inside.getModifiers()));
            Check.isTrue(inside + " is not public", !Modifier.isPublic(inside.getModifiers()));
            lookAtFields(inside);
            lookAtMethods(inside, publicNames);
        }
        for (Method m : ContractProbe.class.getDeclaredMethods()) {
            boolean isHidden = Modifier.isPrivate(m.getModifiers());
            Check.isTrue(m + " has a name of its own", !isHidden || !publicNames.contains(m.getName()));
        }
    }

    private static void lookAtFields(Class<?> type) {
        int ofObjects = 0;
        for (Field f : type.getDeclaredFields()) {
            Check.isTrue(f + " is private", Modifier.isPrivate(f.getModifiers()));
            if (Modifier.isStatic(f.getModifiers())) {
                Check.isTrue(f + " is final", Modifier.isFinal(f.getModifiers()));
            } else {
                ofObjects++;
            }
        }
        Check.isTrue(type + " has at most twenty fields", ofObjects <= 20);
    }

    private static void lookAtMethods(Class<?> type, Set<String> publicNames) {
        for (Method m : type.getDeclaredMethods()) {
            Check.isTrue(m + " has a name of its own", !publicNames.contains(m.getName()));
            Check.isTrue(m + " has at most seven parameters", m.getParameterCount() <= 7);
        }
    }

    private static void roomOfAnObject() throws IllegalAccessException {
        Set<Object> met = Collections.newSetFromMap(new IdentityHashMap<>());
        Deque<Object> toDo = new ArrayDeque<>();
        toDo.add(new ContractProbe());
        int elements = 0;
        while (!toDo.isEmpty()) {
            Object o = toDo.remove();
            if (!met.add(o)) {
                continue;
            }
            if (o.getClass().isArray()) {
                elements += Array.getLength(o);
                continue;
            }
            for (Field f : o.getClass().getDeclaredFields()) {
                if (!Modifier.isStatic(f.getModifiers())) {
                    elements++;
                    f.setAccessible(true);
                    if (!f.getType().isPrimitive() && f.get(o) != null) {
                        toDo.add(f.get(o));
                    }
                }
            }
        }
        System.out.println("an object is " + met.size() + " objects and arrays with " + elements + " fields and elements");
        Check.isTrue("objects: " + met.size(), met.size() * MOST_CALLS <= MOST_OBJECTS);
        Check.isTrue("elements: " + elements, elements * MOST_CALLS <= MOST_ELEMENTS);
    }

    /** No call makes an object; a little is left free for what the machine itself may do. */
    private static void roomOfCalls() {
        ContractProbe x = new ContractProbe();
        useAll(x);
        com.sun.management.ThreadMXBean threads =
            (com.sun.management.ThreadMXBean) ManagementFactory.getThreadMXBean();
        long self = Thread.currentThread().getId();
        threads.getThreadAllocatedBytes(self);
        long before = threads.getThreadAllocatedBytes(self);
        for (int round = 0; round < 20; round++) {
            useAll(x);
        }
        long made = threads.getThreadAllocatedBytes(self) - before;
        Check.isTrue("bytes made by calls: " + made, made < 2000);
    }

    private static void useAll(ContractProbe x) {
        x.clear();
        x.start(9, 40);
        x.add(1, 0);
        x.add(19, 0);
        x.add(21, 0);
        x.add(2, 0);
        x.add(0, 1);
        x.add(15, 0);
        x.explore(1);
        x.explore(2);
        x.inputs(0);
        x.witness(0);
        x.end(0, 0);
        x.step(0, 0, 0);
        x.left(0, 0);
        x.finding(0, 2);
        x.risk(0, 0, 2);
        x.replay(2, 77);
        x.replayed(5);
    }

    private static void source() throws IOException {
        List<String> lines = Files.readAllLines(Path.of("src/main/java/ContractProbe.java"));
        String[] ruledOut = {"package ", "->", "::", " try ", "catch", "finally", "synchronized", "assert ", "throw",
            "static {", "while (true)", "for (;;)", "double", "float", "hashCode", "toString", "System.", "Thread"};
        for (String line : lines) {
            boolean isImport = line.startsWith("import ");
            Check.isTrue("import: " + line, !isImport || line.equals("import java.util.Arrays;"));
            for (String word : ruledOut) {
                Check.isTrue("ruled out: " + line, !line.contains(word));
            }
            Check.isTrue("a line of at most 120: " + line, line.length() <= 120);
        }
    }
}
