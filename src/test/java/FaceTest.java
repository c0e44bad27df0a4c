import java.io.IOException;
import java.lang.reflect.Constructor;
import java.lang.reflect.Field;
import java.lang.reflect.Method;
import java.lang.reflect.Modifier;
import java.nio.charset.StandardCharsets;
import java.nio.file.Files;
import java.nio.file.Path;
import java.util.Arrays;
import java.util.TreeSet;
import java.util.regex.Pattern;

/** The public face, and the rules of LANGUAGE.md that can be told from the class and its source. */
public final class FaceTest {
    private static final String[] FACE = {
        "int feed(int)", "int end(int)", "int text()", "int fault()", "int rule(int)", "int goose(int,int)",
        "int owner(int,int)", "int share(int,int)", "int trade(int,int)", "int alter(int,int,int)",
        "int purse(int,int)", "int grant(int,int,int)", "int plan(int,int,int,int)", "int cut(int)",
        "int buy(int,int,int,int)", "int pluck(int,int,int,int)", "int weeks(int)", "int runs(int)",
        "int ahead(int,int)", "int later(int,int,int)", "int eggs(int,int)", "int bare(int,int)",
        "int rich(int,int)", "int turn(int)", "int need(int,int,int)", "int best(int,int,int)",
        "int leave(int,int)", "int swings(int,int)", "long power(int,int,int)", "int reign(int,int)",
        "long luck(int,int,int,int,int)", "long mean(int,int,int,int)", "int see(int,int,int,int)",
        "int forget(int)", "int kinds(int)", "int skins(int)", "int look(int,int)", "int drift(int,int,int)",
        "int keep(int)", "int back(int)", "int sheet(int,int,int)", "int lay(int,int,int)",
        "int read(int,int,int,int)", "int torn()", "int count(int)"};
    private static final String[] FORBIDDEN = {"\\bthrow\\b", "\\btry\\b", "\\bcatch\\b", "\\bsynchronized\\b",
        "\\bassert\\b", "->", "::", "\\bequals\\b", "\\bhashCode\\b", "\\btoString\\b", "Exact\\b", "\\bprotected\\b",
        "\\bObject\\b", "\\bSystem\\.(?!arraycopy)", "\\bThread\\b", "\\bRandom\\b", "[^\\x00-\\x7e]"};

    public static void main(String[] args) throws IOException {
        constants();
        methods();
        nothingElse();
        classesInside(FeatherShares.class);
        source();
        Check.end("FaceTest");
    }

    private static void constants() {
        Check.is("BAD", FeatherShares.BAD, -1);
        Check.is("STATE", FeatherShares.STATE, -2);
        Check.is("FULL", FeatherShares.FULL, -3);
        Check.is("NONE", FeatherShares.NONE, -4);
        Check.isTrue("public", Modifier.isPublic(FeatherShares.class.getModifiers()));
        Check.isTrue("final", Modifier.isFinal(FeatherShares.class.getModifiers()));
    }

    private static void methods() {
        TreeSet<String> due = new TreeSet<>(Arrays.asList(FACE));
        TreeSet<String> got = new TreeSet<>();
        for (Method m : FeatherShares.class.getDeclaredMethods()) {
            if (Modifier.isPublic(m.getModifiers())) {
                StringBuilder told = new StringBuilder(m.getReturnType() + " " + m.getName() + "(");
                for (int i = 0; i < m.getParameterCount(); i++) {
                    told.append(i == 0 ? "" : ",").append(m.getParameterTypes()[i]);
                }
                got.add(told.append(")").toString());
            }
        }
        Check.is("45 methods", FACE.length, 45);
        Check.isTrue("the face is " + due + ", not " + got, due.equals(got));
    }

    private static void nothingElse() {
        for (Constructor<?> c : FeatherShares.class.getDeclaredConstructors()) {
            Check.isTrue("one constructor", c.getParameterCount() == 0 && Modifier.isPublic(c.getModifiers()));
        }
        for (Method m : FeatherShares.class.getDeclaredMethods()) {
            int is = m.getModifiers();
            Check.isTrue(m + " is public or private", Modifier.isPublic(is) || Modifier.isPrivate(is));
        }
        for (Field f : FeatherShares.class.getDeclaredFields()) {
            boolean constant = Arrays.asList("BAD", "STATE", "FULL", "NONE").contains(f.getName());
            Check.isTrue(f + " is private", constant || Modifier.isPrivate(f.getModifiers()));
        }
        Check.isTrue("no package", FeatherShares.class.getPackageName().isEmpty());
    }

    private static void classesInside(Class<?> outer) {
        TreeSet<String> faceNames = new TreeSet<>();
        for (String call : FACE) {
            faceNames.add(call.substring(call.indexOf(' ') + 1, call.indexOf('(')));
        }
        Check.isTrue("some twelve classes", outer.getDeclaredClasses().length < 12);
        for (Class<?> inside : outer.getDeclaredClasses()) {
            Check.isTrue(inside + " is static", Modifier.isStatic(inside.getModifiers()));
            int fields = 0;
            for (Field f : inside.getDeclaredFields()) {
                fields += Modifier.isStatic(f.getModifiers()) ? 0 : 1;
                Check.isTrue(f + " static is final", !Modifier.isStatic(f.getModifiers()) || Modifier.isFinal(f.getModifiers()));
            }
            Check.isTrue(inside + " has some twenty fields at most", fields <= 20);
            for (Method m : inside.getDeclaredMethods()) {
                Check.isTrue(m + " bears no name of the face", !faceNames.contains(m.getName()));
                Check.isTrue(m + " takes seven at most", m.getParameterCount() <= 7);
            }
        }
    }

    private static void source() throws IOException {
        String text = Files.readString(Path.of("src/main/java/FeatherShares.java"), StandardCharsets.UTF_8);
        String code = text.replaceAll("(?s)/\\*.*?\\*/", "").replaceAll("//[^\n]*", "");
        for (String word : FORBIDDEN) {
            Check.isTrue("no " + word + " in the source", !Pattern.compile(word).matcher(code).find());
        }
        for (String line : code.split("\n")) {
            if (line.startsWith("import ")) {
                Check.isTrue(line, line.equals("import java.util.Arrays;"));
            }
        }
    }
}
