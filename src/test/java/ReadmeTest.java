import java.io.IOException;
import java.lang.reflect.Method;
import java.lang.reflect.Modifier;
import java.nio.file.Files;
import java.nio.file.Path;
import java.util.List;

/** README.md: its example answers what it says, and it names every call. */
final class ReadmeTest {
    private static List<String> page;
    private static int at;

    private ReadmeTest() {
    }

    static void all(String file) {
        Checks.test("README: the example answers what it says", () -> example(file));
        Checks.test("README: every call is named", () -> names(file));
    }

    /** The next line of the page that tells an answer must be this call with this answer. */
    private static void told(String call, Object answer) {
        while (at < page.size() && !page.get(at).matches("(int \\w+ = )?house\\..*// .*")) {
            at++;
        }
        String line = at < page.size() ? page.get(at) : "";
        String[] parts = line.split(" *// ", 2);
        if (!parts[0].replaceAll("^int \\w+ = ", "").equals("house." + call + ";") || !parts[1].split("[: ]")[0].equals(answer.toString())) {
            throw new AssertionError("house." + call + " answered " + answer + ", README.md has: " + line);
        }
        at++;
    }

    private static void example(String file) throws IOException {
        page = Files.readAllLines(Path.of(file));
        at = 0;
        TowerHouse house = new TowerHouse();
        told("line(0, 0, 8, 0)", house.line(0, 0, 8, 0));
        told("line(0, 4, 8, 4)", house.line(0, 4, 8, 4));
        told("line(0, 0, 0, 4)", house.line(0, 0, 0, 4));
        told("line(8, 0, 8, 4)", house.line(8, 0, 8, 4));
        told("line(4, 0, 4, 4)", house.line(4, 0, 4, 4));
        told("door(4, 1, 3, 1)", house.door(4, 1, 3, 1));
        told("door(3, 1, 2, 1)", house.door(3, 1, 2, 1));
        told("find()", house.find());
        told("name(0, 1)", house.name(0, 1));
        told("name(1, 2)", house.name(1, 2));
        told("measure(1, 0, 0x61L)", house.measure(1, 0, 0x61L));
        told("say(0x723A613E3D3132L)", house.say(0x723A613E3D3132L));
        told("rules()", house.rules());
        told("build(0)", house.build(0));
        int person = house.person(0, 1);
        told("person(0, 1)", person);
        int card = house.card(person, 1000);
        told("card(person, 1000)", card);
        told("right(0, 2, 0, 1439, 0)", house.right(0, 2, 0, 1439, 0));
        told("ask(card, 1, 1)", house.ask(card, 1, 1));
        told("ask(card, 0, 1)", house.ask(card, 0, 1));
        told("where(person, 0)", house.where(person, 0));
        told("sentence(0, 0, 1, 1, 1)", house.sentence(0, 0, 1, 1, 1));
        told("sentence(1, 0, 4, 0, 0)", house.sentence(1, 0, 4, 0, 0));
        told("sentence(2, 0, 0, 0, 0)", house.sentence(2, 0, 0, 0, 0));
        told("matrix()", house.matrix());
        told("fire(5, 0)", house.fire(5, 0));
        told("pass(10)", house.pass(10));
        Checks.due(4, house.told(3));
        Checks.due(0, house.told(7));
        told("pass(10)", house.pass(10));
        Checks.due(8, house.told(3));
        Checks.due(1, house.told(7));
        told("where(person, 0)", house.where(person, 0));
        while (at < page.size()) {
            Checks.due(false, page.get(at).matches("(int \\w+ = )?house\\..*"));
            at++;
        }
    }

    private static void names(String file) throws IOException {
        String text = Files.readString(Path.of(file));
        for (Method m : TowerHouse.class.getDeclaredMethods()) {
            if (Modifier.isPublic(m.getModifiers()) && !text.contains("`" + m.getName() + "(")) {
                throw new AssertionError(m.getName() + " is not named");
            }
        }
    }
}
