import java.lang.reflect.Field;
import java.lang.reflect.Method;
import java.lang.reflect.Modifier;
import java.nio.file.Files;
import java.nio.file.Path;
import java.util.Arrays;
import java.util.Set;
import java.util.TreeSet;
import java.util.regex.Matcher;
import java.util.regex.Pattern;

/** The public face of the document, and the rules of LANGUAGE.md that a search can see. */
public final class FaceTest {
    private static final String[] FACE = {
        "int person(int,int)", "int crease(int,int,int,int)", "boolean tie(int,int)", "boolean heat(int)",
        "int feed(int,int,int,int,int)", "int end(int)", "int text()", "int fault(int)", "boolean by(int)",
        "int press(int)", "boolean pattern(int)", "int damp(int)", "int hour(int)", "int played(int)",
        "int seasons(int,int)", "int undo()", "int of(int,int)", "int ofCrease(int,int)", "int is(int)",
        "int book(int,int)", "int hanging(int)", "int foretold(int,int)", "int want(int,int)",
        "int cut(boolean)", "int board(int)", "int hands(int,int)", "int flat(int,int,int)",
        "int seam(int,int,int)", "int sets(int,int)", "int next(int)", "int heir(int)",
        "int laughs(int,boolean,int)", "int offer(int)", "int price(boolean)",
        "long wrongly(int,int,int,int,boolean)", "int priced(int,int)", "int whose()", "int befell(int,int)",
        "int eldest(int)", "int blank()", "int shared(int,int)", "int image()", "int back()", "int about(int)"
    };

    public static void main(String[] args) throws Exception {
        members();
        nested();
        words();
        Due.finish();
    }

    private static void members() {
        Set<String> due = new TreeSet<>(Arrays.asList(FACE));
        Set<String> got = new TreeSet<>();
        Set<String> names = new TreeSet<>();
        for (Method method : IronedOut.class.getDeclaredMethods()) {
            if (!Modifier.isPrivate(method.getModifiers())) {
                got.add(signature(method));
                names.add(method.getName());
                Due.due("public " + method, Modifier.isPublic(method.getModifiers()), true);
            }
        }
        Due.due("face " + got, got.equals(due), true);
        for (Method method : IronedOut.class.getDeclaredMethods()) {
            Due.due("private namesake " + method, Modifier.isPrivate(method.getModifiers())
                && names.contains(method.getName()), false);
        }
        for (Field field : IronedOut.class.getDeclaredFields()) {
            boolean open = !Modifier.isPrivate(field.getModifiers());
            Due.due("field " + field, open, field.getName().equals("NONE"));
            Due.due("static not final " + field, Modifier.isStatic(field.getModifiers())
                && !Modifier.isFinal(field.getModifiers()), false);
        }
        Due.due("NONE", IronedOut.NONE, -1);
        Due.due("public final", IronedOut.class.getModifiers(), Modifier.PUBLIC | Modifier.FINAL);
        Due.due("constructors", IronedOut.class.getConstructors().length, 1);
    }

    private static String signature(Method method) {
        StringBuilder line = new StringBuilder(method.getReturnType() + " " + method.getName() + "(");
        for (Class<?> type : method.getParameterTypes()) {
            line.append(line.charAt(line.length() - 1) == '(' ? "" : ",").append(type);
        }
        return line.append(")").toString();
    }

    private static void nested() {
        Due.due("classes", IronedOut.class.getDeclaredClasses().length < 12, true);
        for (Class<?> inside : IronedOut.class.getDeclaredClasses()) {
            Due.due("static " + inside, Modifier.isStatic(inside.getModifiers()), true);
            Due.due("not public " + inside, Modifier.isPublic(inside.getModifiers()), false);
            int fields = 0;
            for (Field field : inside.getDeclaredFields()) {
                fields += Modifier.isStatic(field.getModifiers()) ? 0 : 1;
            }
            Due.due("fields of " + inside, fields <= 22, true);
            for (Method method : inside.getDeclaredMethods()) {
                Due.due("parameters of " + method, method.getParameterCount() <= 7, true);
                Due.due("namesake " + method, Arrays.toString(FACE).contains(" " + method.getName() + "("), false);
            }
        }
    }

    private static void words() throws Exception {
        String source = Files.readString(Path.of("src/main/java/IronedOut.java"));
        String code = source.replaceAll("(?s)/\\*.*?\\*/", "").replaceAll("//.*", "");
        Matcher banned = Pattern.compile("\\b(throw|throws|try|catch|finally|synchronized|assert|import|package"
            + "|protected|instanceof|hashCode|equals|toString)\\b|->|::|\" \\+|\\+ \"").matcher(code);
        while (banned.find()) {
            Due.due("banned: " + banned.group(), 1, 0);
        }
        Due.due("tabs", source.indexOf('\t') >= 0, false);
        String[] lines = source.split("\n");
        int begun = 0;
        for (int i = 0; i < lines.length; i++) {
            begun = lines[i].matches(" {4,8}\\S.*\\) \\{") ? i : begun;
            Due.due("method is short, line " + (i + 1), lines[i].matches(" {4,8}\\}") && i - begun > 60
                && lines[begun].length() - lines[begun].stripLeading().length()
                == lines[i].length() - lines[i].stripLeading().length(), false);
        }
    }
}
