import java.io.IOException;
import java.lang.reflect.Constructor;
import java.lang.reflect.Field;
import java.lang.reflect.Method;
import java.lang.reflect.Modifier;
import java.nio.file.Files;
import java.nio.file.Path;
import java.util.HashSet;
import java.util.Set;
import java.util.regex.Matcher;
import java.util.regex.Pattern;

/** The rules of LANGUAGE.md that can be seen from the class and its text; runs in the project's directory. */
public final class LanguageTest {
    private static final String SOURCE = "src/main/java/ThirtyThreeBelow.java";
    private static final String[] FACE = {
        "hard(II)I", "open(II)I", "ofCell(II)I", "body(I)I", "hole(II)I", "shelter(II)I", "man(II)I", "ofBody(II)I", "ill(II)I",
        "speed(II)I", "set(II)I", "breaks(II)I", "yard(II)I", "met(II)I", "log(IIIII)I", "spread(I)I", "canBe(III)I",
        "map(II)I", "old(II)I", "wrong(I)I", "known(I)I", "feed(II)I", "text(II)I", "inForce(III)I", "says(II)I",
        "hours(I)I", "spoons(I)I", "move(II)I", "last(II)I", "best(I)I", "down(III)I", "below(I)I", "need(II)I",
        "order()I", "ordered(I)I", "watch(II)I", "watched(II)I", "aim(II)I", "rock(III)I", "aimed(III)I", "aimedAt(II)I",
        "race(III)I", "capsule(I)I", "up(II)I", "raise(I)I", "act(III)I", "trace(I)I", "keep(II)I", "row(III)I",
        "put(IIJ)I", "blank(II)I", "element(II)J", "shift(IIIII)I", "taken(II)I", "count(I)I",
    };

    public static void main(String[] args) throws IOException {
        face();
        nested();
        String code = withoutTexts(Files.readString(Path.of(SOURCE)));
        words(code);
        lengths(code);
        Due.end();
    }

    private static String letter(Class<?> type) {
        return type == int.class ? "I" : type == long.class ? "J" : type.getName();
    }

    private static void face() {
        Set<String> found = new HashSet<>();
        Set<String> named = new HashSet<>();
        for (Method m : ThirtyThreeBelow.class.getDeclaredMethods()) {
            Due.so(m + " is public or private", Modifier.isPublic(m.getModifiers()) || Modifier.isPrivate(m.getModifiers()));
            if (Modifier.isPublic(m.getModifiers())) {
                StringBuilder sign = new StringBuilder(m.getName()).append('(');
                for (Class<?> type : m.getParameterTypes()) {
                    sign.append(letter(type));
                }
                found.add(sign.append(')').append(letter(m.getReturnType())).toString());
                named.add(m.getName());
            }
        }
        Due.is("the face", found.size(), FACE.length);
        for (String sign : FACE) {
            Due.so(sign, found.contains(sign));
        }
        for (Class<?> c : ThirtyThreeBelow.class.getDeclaredClasses()) {
            for (Method m : c.getDeclaredMethods()) {
                Due.so(m + " has a name of its own", !named.contains(m.getName()));
            }
        }
        for (Method m : ThirtyThreeBelow.class.getDeclaredMethods()) {
            Due.so(m + " has a name of its own", Modifier.isPublic(m.getModifiers()) || !named.contains(m.getName()));
        }
        int shown = 0;
        for (Field f : ThirtyThreeBelow.class.getDeclaredFields()) {
            Due.so(f + " is public or private", Modifier.isPublic(f.getModifiers()) || Modifier.isPrivate(f.getModifiers()));
            shown += Modifier.isPublic(f.getModifiers()) ? 1 : 0;
        }
        Due.is("public constants", shown, 4);
        Constructor<?>[] makers = ThirtyThreeBelow.class.getDeclaredConstructors();
        Due.is("constructors", makers.length, 1);
        Due.so("a public final class", Modifier.isFinal(ThirtyThreeBelow.class.getModifiers()));
    }

    private static void nested() {
        Class<?>[] inside = ThirtyThreeBelow.class.getDeclaredClasses();
        Due.so("some twelve classes", inside.length + 1 <= 12);
        fields(ThirtyThreeBelow.class);
        for (Class<?> c : inside) {
            Due.so(c + " is static", Modifier.isStatic(c.getModifiers()));
            fields(c);
            for (Method m : c.getDeclaredMethods()) {
                Due.so(m + " takes seven at most", m.getParameterCount() <= 7);
            }
        }
    }

    private static void fields(Class<?> c) {
        int own = 0;
        for (Field f : c.getDeclaredFields()) {
            if (Modifier.isStatic(f.getModifiers())) {
                Due.so(f + " is final", Modifier.isFinal(f.getModifiers()));
            } else {
                own++;
            }
        }
        Due.so(c + " has some twenty fields", own <= 20);
    }

    private static String withoutTexts(String code) {
        return code.replaceAll("//[^\n]*", "").replaceAll("(?s)/\\*.*?\\*/", "").replaceAll("\"[^\"\n]*\"", "\"\"");
    }

    private static void words(String code) {
        String[] none = {"\\bthrow\\b", "\\bthrows\\b", "\\btry\\b", "\\bcatch\\b", "\\bfinally\\b", "\\bsynchronized\\b",
            "\\bassert\\b", "->", "::", "\\bprotected\\b", "\\bvolatile\\b", "Exact\\b", "\\bhashCode\\b", "\\btoString\\b",
            "\\bequals\\b", "\\bRandom\\b", "\\bSystem\\.(?!arraycopy)", "\\bThread\\b", "\\bvar\\b", "\\bpackage\\b"};
        for (String word : none) {
            Due.so("no " + word, !Pattern.compile(word).matcher(code).find());
        }
        Matcher imports = Pattern.compile("\\bimport ([^;]*);").matcher(code);
        while (imports.find()) {
            Due.so(imports.group(1), imports.group(1).equals("java.util.Arrays"));
        }
    }

    private static void lengths(String code) {
        String[] lines = code.split("\n");
        int begin = -1;
        int depth = 0;
        for (int n = 0; n < lines.length; n++) {
            boolean heads = lines[n].matches("\\s+(public |private |static |final )*[\\w\\[\\]]+ ?\\w*\\([^;]*\\) \\{")
                && !lines[n].matches("\\s+(if|for|while|switch|else|return).*");
            if (heads && begin < 0) {
                begin = n;
                depth = lines[n].indexOf(lines[n].trim());
            } else if (begin >= 0 && lines[n].startsWith(" ".repeat(depth) + "}")) {
                Due.so(lines[begin].trim() + " is short", n - begin < 60);
                begin = -1;
            }
        }
    }
}
