import java.lang.reflect.Constructor;
import java.lang.reflect.Field;
import java.lang.reflect.Member;
import java.lang.reflect.Method;
import java.lang.reflect.Modifier;
import java.util.ArrayList;
import java.util.Arrays;
import java.util.List;
import java.util.Set;
import java.util.TreeSet;

/** The public face is the document's, and nothing else of the class can be seen (LANGUAGE.md, rules 1 and 5). */
public final class FaceTest {
    private static final Due DUE = new Due();
    private static final String STATE = "IllegalStateException";
    private static final String INDEX = "IndexOutOfBoundsException";
    private static final String ARGUMENT = "IllegalArgumentException";

    public static void main(String[] args) {
        DUE.part("face");
        DUE.same("class", Modifier.toString(FishGrader.class.getModifiers()), "public final");
        Set<String> due = new TreeSet<>(face());
        Set<String> seen = new TreeSet<>();
        for (Method m : FishGrader.class.getDeclaredMethods()) {
            if (Modifier.isPublic(m.getModifiers())) {
                seen.add(signature(m));
            }
        }
        DUE.same("methods", String.join("\n", seen), String.join("\n", due));
        Constructor<?>[] constructors = FishGrader.class.getDeclaredConstructors();
        DUE.same("constructors", Arrays.toString(constructors), "[public FishGrader()]");
        Set<String> publicNames = new TreeSet<>();
        for (Method m : FishGrader.class.getDeclaredMethods()) {
            if (Modifier.isPublic(m.getModifiers())) {
                publicNames.add(m.getName());
            }
        }
        hidden(publicNames);
        DUE.end();
    }

    private static void hidden(Set<String> publicNames) {
        List<Member> members = new ArrayList<>(Arrays.asList(FishGrader.class.getDeclaredMethods()));
        members.addAll(Arrays.asList(FishGrader.class.getDeclaredFields()));
        for (Member m : members) {
            boolean shown = m instanceof Field ? m.getName().equals("NONE") : publicNames.contains(m.getName());
            String want = shown ? "public" : "private";
            String got = Modifier.isPublic(m.getModifiers()) ? "public"
                    : Modifier.isPrivate(m.getModifiers()) ? "private" : "visible";
            DUE.same(m.getName(), got, want);
        }
        for (Class<?> c : FishGrader.class.getDeclaredClasses()) {
            DUE.same(c.getName() + " is static", Modifier.isStatic(c.getModifiers()) ? 1 : 0, 1);
            for (Method m : c.getDeclaredMethods()) {
                DUE.same(m.getName() + " in " + c.getName(), publicNames.contains(m.getName()) ? 1 : 0, 0);
            }
            fieldsAreFinalIfStatic(c);
        }
        fieldsAreFinalIfStatic(FishGrader.class);
    }

    private static void fieldsAreFinalIfStatic(Class<?> c) {
        for (Field f : c.getDeclaredFields()) {
            boolean loose = Modifier.isStatic(f.getModifiers()) && !Modifier.isFinal(f.getModifiers());
            DUE.same(c.getName() + "." + f.getName() + " is static and not final", loose ? 1 : 0, 0);
        }
    }

    private static String signature(Method m) {
        StringBuilder s = new StringBuilder(m.getReturnType().getSimpleName()).append(' ').append(m.getName());
        for (Class<?> p : m.getParameterTypes()) {
            s.append(' ').append(p.getSimpleName());
        }
        for (Class<?> e : m.getExceptionTypes()) {
            s.append(" !").append(e.getSimpleName());
        }
        return s.toString();
    }

    private static void add(List<String> all, String names, String parameters, String... exceptions) {
        for (String name : names.split(" ")) {
            StringBuilder s = new StringBuilder(name.equals("isStopped") ? "boolean " : "int ").append(name);
            s.append(parameters.isEmpty() ? "" : " " + parameters);
            for (String e : exceptions) {
                s.append(" !").append(e);
            }
            all.add(s.toString());
        }
    }

    private static List<String> face() {
        List<String> all = new ArrayList<>();
        add(all, "append", "int int int int int");
        add(all, "load", "int", INDEX, ARGUMENT);
        add(all, "parseError errorPosition buffered items speciesCount closed time rule pooled ice iceUsed rejected"
                + " undoable", "");
        add(all, "weight speciesOf stateOf boxOf agreement closedSpecies closedWeight giveaway closedAt icedAt nextIced"
                + " worstBox poolItem landed discarded quota target totalGiveaway earnings label", "int", STATE, INDEX);
        add(all, "score content itemsIn combination release", "int int", STATE, INDEX);
        add(all, "meanGiveaway", "int boolean", STATE, INDEX);
        add(all, "isStopped closedIn giveawayIn firstLate bestRule bestLimit advance setRule setLimit", "int", STATE,
                ARGUMENT);
        add(all, "late iceNeeded undo save restore report", "", STATE);
        add(all, "firstClosed setTarget", "int int", STATE, INDEX, ARGUMENT);
        add(all, "bestMove", "int int", STATE, ARGUMENT);
        add(all, "lookahead moveQuota", "int int int", STATE, INDEX, ARGUMENT);
        add(all, "combine", "int int", STATE, INDEX, "NoSuchElementException");
        add(all, "addItem", "int int int int", STATE, INDEX, ARGUMENT);
        add(all, "labelByte", "int", INDEX);
        return all;
    }
}
