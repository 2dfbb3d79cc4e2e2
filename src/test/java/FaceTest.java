import java.io.IOException;
import java.lang.reflect.Method;
import java.lang.reflect.Modifier;
import java.nio.file.Files;
import java.nio.file.Path;
import java.util.ArrayList;
import java.util.Arrays;
import java.util.Collections;
import java.util.HashSet;
import java.util.List;
import java.util.Set;
import java.util.regex.Matcher;
import java.util.regex.Pattern;

/** The face of the class, and those rules of LANGUAGE.md that can be read off the file. */
final class FaceTest {
    private static final String FACE = "airlock(int,int,boolean)boolean ask(int,int,int)int at(int,int)int attend(int)int"
        + " address(int,int)int act(int,int)int against(int,int)int begin(int,int)boolean between(int,int)int bind(int,int)int"
        + " block(int)int both(int,int,int,int)int build(int)int busy(int,boolean)boolean byteAt(int)int call(int,int)int"
        + " car(int,int)int card(int,int)int cell(int,int,int)int check(int)int count(int)int cutText(int)int disable(int,int)int"
        + " disturb(int)boolean done(int)void door(int,int,int,int)int end(int,int)int event(int,int)int fact(long,int)long"
        + " failed(int)int fault(int,boolean)boolean find()int fire(int,int)boolean free(int,int,int)void give()long"
        + " given(int,int)int hand(int,boolean,int)boolean heard(int)int inside(int)int line(int,int,int,int)int"
        + " listen(int,int,boolean)boolean lost(int,int)int matrix()int measure(int,int,long)int move(int,int,int)boolean"
        + " name(int,int)int nameOf(int)int numbers(int,int,int)void off(int,boolean)int order()int out(int,int)int"
        + " pass(int)int person(int,int)int point(int,int)int pointAt(int)int portal(int,int)int reset()int"
        + " right(int,int,int,int,int)int row(int,int,int)int rule(int,int)long rules()int safe(int,int)int say(long)int"
        + " send(int,int,int,boolean,int,int)int sentence(int,int,int,int,int)int side(int,int,int,int)int sides(int,int)int"
        + " signal(int,int)int size(int,int)int span(int,int,int)void stands(int,boolean)int station(int,int)int told(int)int"
        + " trim(int)int two(int,boolean)boolean unit(int)int way(int,int)int where(int,int)int wire(int,int,int)int zone(int,int)int";

    private FaceTest() {
    }

    static void all(String file) {
        Checks.test("P1 the face is that of the document", FaceTest::face);
        Checks.test("LANGUAGE: members, classes, fields", FaceTest::members);
        Checks.test("LANGUAGE: words that are not to be there", () -> words(file));
        Checks.test("LANGUAGE: methods stay short", () -> lengths(file));
    }

    private static void face() {
        List<String> got = new ArrayList<>();
        for (Method m : TowerHouse.class.getDeclaredMethods()) {
            if (!Modifier.isPrivate(m.getModifiers())) {
                StringBuilder text = new StringBuilder(m.getName()).append('(');
                for (Class<?> c : m.getParameterTypes()) {
                    text.append(text.charAt(text.length() - 1) == '(' ? "" : ",").append(c.getSimpleName());
                }
                got.add(text.append(')').append(m.getReturnType().getSimpleName()).toString());
                Checks.due(true, Modifier.isPublic(m.getModifiers()) && !Modifier.isStatic(m.getModifiers()));
            }
        }
        List<String> want = new ArrayList<>(Arrays.asList(FACE.split(" ")));
        Collections.sort(want);
        Collections.sort(got);
        if (!want.equals(got)) {
            throw new AssertionError(got.toString());
        }
        Checks.due(true, Modifier.isFinal(TowerHouse.class.getModifiers()) && Modifier.isPublic(TowerHouse.class.getModifiers()));
        Checks.due(1, TowerHouse.class.getDeclaredConstructors().length);
    }

    private static void members() {
        Set<String> faceNames = new HashSet<>();
        for (Method m : TowerHouse.class.getDeclaredMethods()) {
            if (Modifier.isPublic(m.getModifiers())) {
                faceNames.add(m.getName());
            }
        }
        List<Class<?>> all = new ArrayList<>(Arrays.asList(TowerHouse.class.getDeclaredClasses()));
        Checks.due(true, all.size() <= 12);
        for (Class<?> c : all) {
            Checks.due(true, Modifier.isStatic(c.getModifiers()) && Modifier.isPrivate(c.getModifiers()));
            for (Method m : c.getDeclaredMethods()) {
                if (faceNames.contains(m.getName())) {
                    throw new AssertionError(c + " bears a name of the face: " + m.getName());
                }
            }
        }
        all.add(TowerHouse.class);
        for (Class<?> c : all) {
            int fields = 0;
            for (java.lang.reflect.Field f : c.getDeclaredFields()) {
                boolean isStatic = Modifier.isStatic(f.getModifiers());
                fields += isStatic ? 0 : 1;
                Checks.due(true, !isStatic || Modifier.isFinal(f.getModifiers()));
                boolean isKeptInside = c != TowerHouse.class || Modifier.isPrivate(f.getModifiers())
                    || Set.of("NONE", "NO", "UNKNOWN").contains(f.getName());
                Checks.due(true, isKeptInside);
            }
            if (fields > 21) {
                throw new AssertionError(c + " has " + fields + " fields");
            }
            for (Method m : c.getDeclaredMethods()) {
                Checks.due(true, m.getParameterCount() <= 7);
            }
        }
        for (Method m : TowerHouse.class.getDeclaredMethods()) {
            Checks.due(true, !Modifier.isPrivate(m.getModifiers()) || !faceNames.contains(m.getName()));
        }
    }

    private static String withoutComments(String file) throws IOException {
        String text = Files.readString(Path.of(file));
        return text.replaceAll("(?s)/\\*.*?\\*/", "").replaceAll("//[^\n]*", "");
    }

    private static void words(String file) throws IOException {
        String text = withoutComments(file);
        String[] never = {"->", "::", "\\btry\\b", "\\bcatch\\b", "\\bfinally\\b", "\\bsynchronized\\b", "\\bassert\\b", "Exact\\b",
            "\\bpackage\\b", "\\bequals\\b", "\\bhashCode\\b", "\\btoString\\b", "\\bSystem\\.(?!arraycopy)", "\\bfloat\\b", "\\bdouble\\b",
            "\\bwhile \\(true", "for \\(;;", "\"[^\"\n]*\" *\\+", "\\+ *\"", "\\binstanceof\\b", "\\bvar\\b", "\\bstatic \\{"};
        for (String word : never) {
            Matcher m = Pattern.compile(word).matcher(text);
            if (m.find()) {
                throw new AssertionError("there is " + m.group() + " in " + file);
            }
        }
        Matcher m = Pattern.compile("import ([^;]*);").matcher(text);
        while (m.find()) {
            if (!m.group(1).equals("java.util.Arrays")) {
                throw new AssertionError("it imports " + m.group(1));
            }
        }
        for (int k = 0; k < text.length(); k++) {
            Checks.due(true, text.charAt(k) < 127);
        }
        Matcher thrown = Pattern.compile("throw ([^;]*);").matcher(text);
        while (thrown.find()) {
            Checks.due(true, thrown.group(1).matches("new Illegal(Argument|State)Exception\\(\"[a-z ,]*\"\\)"));
        }
    }

    private static void lengths(String file) throws IOException {
        String[] lines = Files.readString(Path.of(file)).split("\n");
        int begun = -1;
        String indent = "";
        for (int k = 0; k < lines.length; k++) {
            Matcher m = Pattern.compile("^( {4}| {8})[a-z][\\w\\[\\] ]*\\(.*\\{$").matcher(lines[k]);
            if (begun < 0 && m.find()) {
                begun = k;
                indent = m.group(1);
            } else if (begun >= 0 && lines[k].equals(indent + "}")) {
                if (k - begun > 60) {
                    throw new AssertionError("line " + (begun + 1) + " begins a method of " + (k - begun) + " lines");
                }
                begun = -1;
            }
        }
    }
}
