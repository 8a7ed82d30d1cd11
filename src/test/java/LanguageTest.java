import java.lang.reflect.Constructor;
import java.lang.reflect.Field;
import java.lang.reflect.Member;
import java.lang.reflect.Method;
import java.lang.reflect.Modifier;
import java.nio.file.Files;
import java.nio.file.Path;
import java.util.ArrayList;
import java.util.Arrays;
import java.util.HashSet;
import java.util.List;
import java.util.Set;
import java.util.regex.Matcher;
import java.util.regex.Pattern;

/** The face of the class, and what of ../shared/LANGUAGE.md can be seen from its text and its compiled form. */
public final class LanguageTest {
    private static final Due D = new Due("LanguageTest");

    public static void main(String[] args) throws Exception {
        face();
        membersAndClasses();
        source(Files.readString(Path.of("src/main/java/ToolCrib.java")));
        D.end();
    }

    private static void face() {
        Set<String> want = new HashSet<>(Arrays.asList(
            "int edge(int,int,int,int,int)", "int edgeTold(int,int)", "long used(int,int)", "int wear(int,int,int)",
            "int turn(int)", "int grind(int,int)", "int trail(int,int)", "int tool(int,int,int,int)",
            "int toolTold(int,int)", "int setter(int,int)", "int calibrate(int)", "int measure(int)",
            "int feed(int,long)", "int text()", "int force(int)", "long says(int,int)", "int machine(int,int)",
            "int put(int,int,int)", "int take(int)", "int at(int,int)", "int room(int,int)", "int cut(int,int,int,int)",
            "int job(int)", "int changes(long,int)", "int order(int,int)", "int count(int)", "int sheet(int,int,int)",
            "int cell(int,int,int)", "int cuts(int,int,int,int,int)", "int taken(int,int)"));
        Set<String> publicNames = new HashSet<>();
        for (Method m : ToolCrib.class.getDeclaredMethods()) {
            if (!Modifier.isPrivate(m.getModifiers())) {
                List<String> types = new ArrayList<>();
                for (Class<?> c : m.getParameterTypes()) {
                    types.add(c.getName());
                }
                String told = m.getReturnType() + " " + m.getName() + "(" + String.join(",", types) + ")";
                D.is("no such method in the face: " + told, want.remove(told) ? 1 : 0, 1);
                D.is("not just public: " + told, m.getModifiers(), Modifier.PUBLIC);
                publicNames.add(m.getName());
            }
        }
        D.is("methods missing: " + want, want.size(), 0);
        for (Class<?> c : classes()) {
            for (Method m : c.getDeclaredMethods()) {
                boolean twice = (c != ToolCrib.class || Modifier.isPrivate(m.getModifiers())) && publicNames.contains(m.getName());
                D.is("bears the name of a public one: " + m, twice ? 1 : 0, 0);
                D.is("parameters of " + m, Math.min(m.getParameterCount(), 8) / 8, 0);
            }
        }
    }

    private static List<Class<?>> classes() {
        List<Class<?>> all = new ArrayList<>(Arrays.asList(ToolCrib.class.getDeclaredClasses()));
        all.add(ToolCrib.class);
        return all;
    }

    private static void membersAndClasses() {
        D.is("public and final", ToolCrib.class.getModifiers(), Modifier.PUBLIC | Modifier.FINAL);
        Set<String> constants = new HashSet<>(Arrays.asList("NONE", "BAD", "STATE", "FULL", "NO"));
        for (Field f : ToolCrib.class.getDeclaredFields()) {
            boolean ok = constants.remove(f.getName()) ? Modifier.isPublic(f.getModifiers()) : Modifier.isPrivate(f.getModifiers());
            D.is("reach of " + f, ok ? 1 : 0, 1);
        }
        D.is("constants missing: " + constants, constants.size(), 0);
        for (Constructor<?> c : ToolCrib.class.getDeclaredConstructors()) {
            D.is("constructor " + c, c.getModifiers() + c.getParameterCount(), Modifier.PUBLIC);
        }
        D.is("at most twelve classes", classes().size() <= 12 ? 1 : 0, 1);
        for (Class<?> c : classes()) {
            int fields = 0;
            for (Field f : c.getDeclaredFields()) {
                boolean fixed = Modifier.isStatic(f.getModifiers());
                fields += fixed ? 0 : 1;
                D.is("static, but not final: " + f, fixed && !Modifier.isFinal(f.getModifiers()) ? 1 : 0, 0);
            }
            D.is("fields of " + c, fields <= 20 ? 1 : 0, 1);
            D.is("static: " + c, c == ToolCrib.class || Modifier.isStatic(c.getModifiers()) ? 1 : 0, 1);
        }
    }

    private static void source(String text) {
        String bare = text.replaceAll("(?s)/\\*.*?\\*/", "").replaceAll("//[^\n]*", "");
        String[] banned = {
            "\\bthrow\\b", "\\bthrows\\b", "\\btry\\b", "\\bcatch\\b", "\\bsynchronized\\b", "\\bassert\\b", "->", "::",
            "\\bimport\\b", "\\bpackage\\b", "\\bprotected\\b", "Exact\\b", "\\bequals\\b", "\\bhashCode\\b",
            "\\btoString\\b", "\\bThread\\b", "\\bSystem\\.(?!arraycopy)", "\\brecord\\b", "\\benum\\b", "@", "\\bvar\\b",
        };
        for (String pattern : banned) {
            Matcher m = Pattern.compile(pattern).matcher(bare);
            D.is("the source holds " + pattern, m.find() ? 1 : 0, 0);
        }
        for (int i = 0; i < text.length(); i++) {
            if (text.charAt(i) > 126) {
                D.is("a sign beyond 126 at " + i, text.charAt(i), 0);
            }
        }
        D.is("a static block", Pattern.compile("static\\s*\\{").matcher(bare).find() ? 1 : 0, 0);
        library(bare);
        lengths(bare);
    }

    /** What is called by a class's name or made is the program's own, or stands in rule 4; texts are not joined by +. */
    private static void library(String bare) {
        Set<String> own = new HashSet<>();
        for (Class<?> c : classes()) {
            own.add(c.getSimpleName());
        }
        Matcher call = Pattern.compile("\\b([A-Z]\\w*[a-z]\\w*)\\.(\\w+)\\(").matcher(bare);
        while (call.find()) {
            String told = call.group(1) + "." + call.group(2);
            boolean ok = own.contains(call.group(1)) || told.matches("(Integer|Long|Math)\\.\\w+")
                || told.matches("System\\.arraycopy|Arrays\\.(copyOf|copyOfRange|fill)");
            D.is("not in the library: " + told, ok ? 1 : 0, 1);
        }
        Matcher made = Pattern.compile("\\bnew (\\w+)").matcher(bare);
        while (made.find()) {
            boolean ok = own.contains(made.group(1)) || made.group(1).matches("int|long|short|byte|char|boolean");
            D.is("not to be made: " + made.group(1), ok ? 1 : 0, 1);
        }
        D.is("a text joined by +", Pattern.compile("\"\\s*\\+|\\+\\s*\"").matcher(bare).find() ? 1 : 0, 0);
    }

    /** Methods stay short: from a line that opens one to the line that closes it. */
    private static void lengths(String bare) {
        String[] lines = bare.split("\n");
        int from = -1;
        String indent = "";
        for (int i = 0; i < lines.length; i++) {
            Matcher m = Pattern.compile("^( {4}| {8})\\S[^;=]*\\) \\{$").matcher(lines[i]);
            if (m.find() && from < 0) {
                from = i;
                indent = m.group(1);
            } else if (from >= 0 && lines[i].equals(indent + "}")) {
                D.is("length of" + lines[from], i - from > 60 ? i - from : 0, 0);
                from = -1;
            }
        }
    }
}
