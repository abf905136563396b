import java.io.IOException;
import java.lang.reflect.Method;
import java.lang.reflect.Modifier;
import java.nio.file.Files;
import java.nio.file.Path;

/** README.md tells of every call of the face, with as many arguments as it takes, and its example holds. */
public final class ReadmeTest {
    private static final Due DUE = new Due();

    private static void namesEveryCall(String page) {
        for (Method method : ZMemory.class.getDeclaredMethods()) {
            if (Modifier.isPublic(method.getModifiers())) {
                DUE.is("rows of README.md for " + method.getName(), rowsOf(page, method), 1);
            }
        }
        DUE.is("rows of README.md for the constructor", page.split("\n\\| `new ZMemory\\(\\)` \\|", -1).length - 1, 1);
    }

    private static int rowsOf(String page, Method method) {
        int rows = 0;
        for (String line : page.split("\n")) {
            String start = "| `" + method.getName() + "(";
            if (line.startsWith(start)) {
                String names = line.substring(start.length(), line.indexOf(')'));
                int many = names.isEmpty() ? 0 : names.split(", ").length;
                DUE.is("arguments of " + method.getName(), many, method.getParameterCount());
                rows++;
            }
        }
        return rows;
    }

    private static void exampleHolds() {
        ZMemory z = new ZMemory();
        DUE.is("size", z.size(100, 80), 1);
        DUE.is("globe", z.globe(40), 0);
        DUE.is("instruction", z.instruction(0, -2, -3, 0, 16), 0);
        DUE.is("instruction", z.instruction(21, -17, 0, 0, -1), 1);
        DUE.is("routine", z.routine(0, 0, 2, false), 1);
        DUE.is("run", z.run(0, 5, 6), 0);
        DUE.is("told", z.told(1), 11);
        DUE.is("get", z.get(40, true), 11);
    }

    public static void main(String[] args) throws IOException {
        namesEveryCall(Files.readString(Path.of("README.md")));
        exampleHolds();
        DUE.end();
    }
}
