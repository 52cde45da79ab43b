import java.lang.reflect.Constructor;
import java.lang.reflect.Field;
import java.lang.reflect.Method;
import java.lang.reflect.Modifier;
import java.util.ArrayList;
import java.util.Collections;
import java.util.HashSet;
import java.util.List;
import java.util.Set;

/** The public face as the document has it. */
public final class FaceTest {
    private static final Due due = new Due();
    private static final String[] METHODS = {
        "street(int)", "place(int,int,int)", "limit(int,int)", "clash(int,int,boolean)",
        "rule(int,int)", "stall(int,int,int,int,int,int)", "change(int,int,int)",
        "layout(int,int)", "worth(int)", "open(int)", "shut()", "guest(int,int)", "go(int)",
        "plug(int,int)", "reset(int)", "pull(int)", "of(int,int)", "guestOf(int,int)",
        "suspects(int,int,int)", "lineOf(int,int)", "many(int)", "keep()", "back()"};

    public static void main(String[] args) {
        constants();
        members();
        due.end();
    }

    private static void constants() {
        due.promise("the constants");
        due.is("NUMBER", NightStalls.NUMBER, -1);
        due.is("FULL", NightStalls.FULL, -2);
        due.is("STATE", NightStalls.STATE, -3);
        due.is("NONE", NightStalls.NONE, -4);
        due.is("TRIPS", NightStalls.TRIPS, -5);
    }

    private static void members() {
        due.promise("the face");
        Class<?> face = NightStalls.class;
        due.holds("public and final", Modifier.isPublic(face.getModifiers())
                && Modifier.isFinal(face.getModifiers()));
        List<String> open = new ArrayList<>();
        Set<String> hidden = new HashSet<>();
        for (Method m : face.getDeclaredMethods()) {
            if (Modifier.isPrivate(m.getModifiers())) {
                hidden.add(m.getName());
            } else {
                open.add(signature(m));
                due.holds(m + " is public, no static and answers an int",
                        Modifier.isPublic(m.getModifiers()) && !Modifier.isStatic(m.getModifiers())
                        && m.getReturnType() == int.class);
            }
        }
        List<String> want = new ArrayList<>(List.of(METHODS));
        Collections.sort(open);
        Collections.sort(want);
        due.holds("methods " + open, open.equals(want));
        for (String name : want) {
            due.holds("no private namesake of " + name,
                    !hidden.contains(name.substring(0, name.indexOf('('))));
        }
        Constructor<?>[] made = face.getDeclaredConstructors();
        due.holds("one public constructor without arguments", made.length == 1
                && Modifier.isPublic(made[0].getModifiers()) && made[0].getParameterCount() == 0);
        Set<String> shown = new HashSet<>();
        for (Field f : face.getDeclaredFields()) {
            if (!Modifier.isPrivate(f.getModifiers())) {
                shown.add(f.getName());
            }
            due.holds("a static field is final: " + f, !Modifier.isStatic(f.getModifiers())
                    || Modifier.isFinal(f.getModifiers()));
        }
        due.holds("fields " + shown,
                shown.equals(Set.of("NUMBER", "FULL", "STATE", "NONE", "TRIPS")));
        for (Class<?> inside : face.getDeclaredClasses()) {
            due.holds(inside + " is static", Modifier.isStatic(inside.getModifiers()));
        }
    }

    private static String signature(Method m) {
        StringBuilder text = new StringBuilder(m.getName()).append('(');
        for (Class<?> type : m.getParameterTypes()) {
            if (text.charAt(text.length() - 1) != '(') {
                text.append(',');
            }
            text.append(type.getName());
        }
        return text.append(')').toString();
    }
}
