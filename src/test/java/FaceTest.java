import java.io.IOException;
import java.lang.reflect.Constructor;
import java.lang.reflect.Field;
import java.lang.reflect.Method;
import java.lang.reflect.Modifier;
import java.nio.file.Files;
import java.nio.file.Path;
import java.util.Set;
import java.util.TreeSet;

/** The public face, and those rules of LANGUAGE.md that can be seen from the class and its text. */
public final class FaceTest {
    private static final Path SOURCE = Path.of("src/main/java/PaymentSwitch.java");
    private static final Check CHECK = new Check();
    private static final String[] CALLS = {
        "int acquirer(int)", "int issuer(int)", "int route(int,int,int)", "int account(int,long,long)",
        "int card(long,int)", "void rules(int,int,int,int)", "void open()", "void message(int)",
        "void digits(int,long)", "void letters(int,long,int)", "void approval(int)", "void original(int,int,int)",
        "boolean omit(int)", "int compose()", "int ask(int,int,int,int,long,int,int)",
        "int present(int,int,long,int)", "int undo(int,boolean,int,long)", "int total(int,int)", "int feed(int)",
        "int trim(int)", "int spoil(int,int)", "int fault(int)", "int send()", "int size()", "int byteAt(int)",
        "int ticks(int)", "int block(int,boolean)", "int charge(int,long)", "int represent(int)",
        "int decide(int,boolean)", "int cutoff()", "int checkpoint()", "void crash(int)", "int recover()",
        "boolean isDown()", "int count(int)", "long funds(int,int)", "long payment(int,int)",
        "long acquired(int,int)", "long issued(int,int)", "int audit()"};
    private static final String[] CONSTANTS = {"NONE", "FULL", "CUT", "FAULT", "BAD", "NOWHERE", "ELSEWHERE",
        "DOUBLE", "STATE", "LATE", "MUCH"};

    public static void main(String[] args) throws IOException {
        calls();
        constants();
        classesInside();
        text();
        rowsOfTheDocument();
        CHECK.end();
    }

    private static String faceOf(Method m) {
        StringBuilder out = new StringBuilder(m.getReturnType() + " " + m.getName() + "(");
        for (int i = 0; i < m.getParameterCount(); i++) {
            out.append(i == 0 ? "" : ",").append(m.getParameterTypes()[i]);
        }
        return out.append(")").toString();
    }

    private static void calls() {
        Class<?> face = PaymentSwitch.class;
        CHECK.yes("public and final", Modifier.isPublic(face.getModifiers()) && Modifier.isFinal(face.getModifiers()));
        Set<String> due = new TreeSet<>(Set.of(CALLS));
        Set<String> names = new TreeSet<>();
        Set<String> got = new TreeSet<>();
        for (Method m : face.getDeclaredMethods()) {
            if (!Modifier.isPrivate(m.getModifiers())) {
                CHECK.yes(m + " is public", Modifier.isPublic(m.getModifiers()) && !Modifier.isStatic(m.getModifiers()));
                got.add(faceOf(m));
                names.add(m.getName());
            }
        }
        CHECK.text("calls", got.toString(), due.toString());
        for (Method m : face.getDeclaredMethods()) {
            if (Modifier.isPrivate(m.getModifiers())) {
                CHECK.no(m + " bears a public name", names.contains(m.getName()));
            }
        }
        Constructor<?>[] made = face.getDeclaredConstructors();
        CHECK.same("constructors", made.length, 1);
        CHECK.yes("a public one", Modifier.isPublic(made[0].getModifiers()));
    }

    private static void constants() {
        Set<String> got = new TreeSet<>();
        int own = 0;
        for (Field f : PaymentSwitch.class.getDeclaredFields()) {
            if (!Modifier.isPrivate(f.getModifiers())) {
                got.add(f.getName());
            }
            own += Modifier.isStatic(f.getModifiers()) ? 0 : 1;
        }
        CHECK.text("constants", got.toString(), new TreeSet<>(Set.of(CONSTANTS)).toString());
        CHECK.yes("twenty fields at most", own <= 20);
    }

    private static void classesInside() {
        Set<String> names = new TreeSet<>();
        for (String call : CALLS) {
            names.add(call.substring(call.indexOf(' ') + 1, call.indexOf('(')));
        }
        Class<?>[] inside = PaymentSwitch.class.getDeclaredClasses();
        CHECK.yes("twelve classes at most", inside.length < 12);
        for (Class<?> c : inside) {
            CHECK.yes(c + " is private and static",
                    Modifier.isPrivate(c.getModifiers()) && Modifier.isStatic(c.getModifiers()));
            CHECK.yes(c + " has twenty fields at most", c.getDeclaredFields().length <= 20);
            for (Method m : c.getDeclaredMethods()) {
                CHECK.no(m + " bears a public name", names.contains(m.getName()));
                CHECK.yes(m + " takes seven at most", m.getParameterCount() <= 7);
            }
        }
    }

    // With the names of parameters and the exceptions, which the class alone does not show.
    private static void rowsOfTheDocument() throws IOException {
        String source = Files.readString(SOURCE).replaceAll("\\s+", " ");
        String document = Files.readString(Path.of("../shared/DOC.md"));
        int begin = document.indexOf("public final class PaymentSwitch {");
        int end = document.indexOf("\n}", begin);
        CHECK.yes("the document has a face", begin >= 0 && end > begin);
        for (String row : document.substring(Math.max(0, begin), Math.max(0, end)).split("\n")) {
            String due = row.strip();
            boolean isConstant = due.contains("=");
            CHECK.yes("the text has '" + due + "'", source.contains(isConstant ? due : due.replace(";", " {")));
        }
    }

    private static void text() throws IOException {
        String source = Files.readString(SOURCE);
        String[] outside = {"import ", "package ", "->", "::", "static {", "synchronized", "assert ", "finally",
            "try ", "System.", "Exact(", "double ", "float "};
        for (String word : outside) {
            CHECK.no("the text has '" + word + "'", source.contains(word));
        }
    }
}
