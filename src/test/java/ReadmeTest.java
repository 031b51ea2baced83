import java.io.IOException;
import java.lang.reflect.Method;
import java.lang.reflect.Modifier;
import java.nio.file.Files;
import java.nio.file.Path;
import java.util.ArrayList;
import java.util.List;
import java.util.Set;
import java.util.TreeSet;
import java.util.regex.Matcher;
import java.util.regex.Pattern;

/** README.md says how to use the class: its example answers as it says, and its table names every call. */
public final class ReadmeTest extends Checks {
    private static final List<String> EXAMPLE = List.of(
        "SiloPads silos = new SiloPads();",
        "silos.ship(0, 900, 900);",
        "silos.unload(2, 0, 300);",
        "silos.pads(2, 3);",
        "int came = silos.flow(2, 1, 2);",
        "silos.undo();",
        "for (char c : \"2>1:2;+4\".toCharArray()) {",
        "silos.append(c);",
        "}",
        "silos.play();");

    public static void main(String[] args) throws IOException {
        String readme = Files.readString(Path.of("README.md"));
        exampleIsTheOneHere(readme);
        exampleAnswers();
        partsOfTexts();
        tableNamesEveryCall(readme);
        end("ReadmeTest");
    }

    private static void exampleIsTheOneHere(String readme) {
        sentence("README: the example is the one that is tried here");
        List<String> lines = new ArrayList<>();
        String[] parts = readme.split("```");
        for (String line : parts[1].split("\n")) {
            String call = line.replaceAll("//.*", "").trim();
            if (!call.isEmpty() && !call.equals("java")) {
                lines.add(call);
            }
        }
        dueText("lines", lines.toString(), EXAMPLE.toString());
    }

    private static void exampleAnswers() {
        sentence("README: what the example says");
        SiloPads silos = new SiloPads();
        due("ship", silos.ship(0, 900, 900), 0);
        due("300 of them go into silo 2", silos.unload(2, 0, 300), 300);
        due("three of its pads blow", silos.pads(2, 3), 0);
        String before = view(silos);
        due("two hours into ship 1: 228 tonnes", silos.flow(2, 1, 2), 228);
        due("12 are dust", silos.count(3), 12);
        String behind = view(silos);
        due("undo", silos.undo(), 3);
        dueText("as before the flow", view(silos), before);
        type(silos, "2>1:2");
        due("228 again", silos.play(), 228);
        dueText("the same as a text", view(silos), behind);
        silos.undo();
        type(silos, "2>1:2;+4");
        due("228 again, and days", silos.play(), 228);
        due("four days", silos.count(0), 4);
    }

    private static void partsOfTexts() {
        sentence("README: parts of a text");
        SiloPads silos = new SiloPads();
        silos.ship(0, 900, 900);
        type(silos, "2<0:300;+4");
        due("300 tonnes from ship 0 into silo 2", silos.play(), 300);
        due("silo 2", silos.silo(2, 0), 300);
        due("ship 0", silos.shipOf(0, 0), 600);
        due("four days", silos.layer(2, 0, 1), 4);
    }

    private static void tableNamesEveryCall(String readme) {
        sentence("README: the table names every call");
        Set<String> named = new TreeSet<>();
        for (String line : readme.split("\n")) {
            Matcher matcher = Pattern.compile("`(\\w+)`").matcher(line.startsWith("|") ? line : "");
            while (matcher.find()) {
                named.add(matcher.group(1));
            }
        }
        Set<String> face = new TreeSet<>();
        for (Method method : SiloPads.class.getDeclaredMethods()) {
            if (Modifier.isPublic(method.getModifiers())) {
                face.add(method.getName());
            }
        }
        dueText("calls", named.toString(), face.toString());
    }
}
