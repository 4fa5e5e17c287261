import java.io.IOException;
import java.lang.reflect.Constructor;
import java.lang.reflect.Field;
import java.lang.reflect.Method;
import java.lang.reflect.Modifier;
import java.nio.file.Files;
import java.nio.file.Path;
import java.util.HashSet;
import java.util.Set;
import java.util.regex.Matcher;
import java.util.regex.Pattern;

/** The public face of the document, and those rules of LANGUAGE.md that can be seen from outside. */
public final class FaceTest {
    private static final String FACE = "thing3 act2 undo0 where1 over2 was2 event2 feed5 say1 reading2 means2 trouble2 taken0 "
            + "answer0 plan1 done0 mentioned1 owned1 judge1 breaks1 acts1 noun1 check1 count1";

    public static void main(String[] args) throws IOException {
        face();
        fields(RoomTalk.class);
        for (Class<?> inside : RoomTalk.class.getDeclaredClasses()) {
            holds(inside + " is static", Modifier.isStatic(inside.getModifiers()));
            fields(inside);
        }
        holds("at most twelve classes", RoomTalk.class.getDeclaredClasses().length < 12);
        words();
        Talk.finish();
    }

    private static void holds(String what, boolean is) {
        Talk.due(what, is ? 1 : 0, 1);
    }

    private static void face() {
        Talk.due("NONE", RoomTalk.NONE, -1);
        holds("the class is public and final", RoomTalk.class.getModifiers() == (Modifier.PUBLIC | Modifier.FINAL));
        Constructor<?>[] constructors = RoomTalk.class.getDeclaredConstructors();
        holds("one constructor", constructors.length == 1 && constructors[0].getParameterCount() == 0);
        Set<String> wanted = new HashSet<>(Set.of(FACE.split(" ")));
        Set<String> names = new HashSet<>();
        wanted.forEach(name -> names.add(name.replaceAll("[0-9]", "")));
        for (Method method : RoomTalk.class.getDeclaredMethods()) {
            if (Modifier.isPublic(method.getModifiers())) {
                holds(method.getName() + " is of the face", wanted.remove(method.getName() + method.getParameterCount()));
                holds(method.getName() + " answers an int", method.getReturnType() == int.class);
            } else {
                holds(method.getName() + " is private", Modifier.isPrivate(method.getModifiers()));
                holds(method.getName() + " is no name of the face", !names.contains(method.getName()));
            }
        }
        holds("the whole face, but " + wanted, wanted.isEmpty());
    }

    private static void fields(Class<?> type) {
        int own = 0;
        for (Field field : type.getDeclaredFields()) {
            boolean isNone = field.getName().equals("NONE");
            holds(type + " " + field.getName() + " is private", Modifier.isPrivate(field.getModifiers()) != isNone);
            boolean isStatic = Modifier.isStatic(field.getModifiers());
            holds(field.getName() + " is final if static", !isStatic || Modifier.isFinal(field.getModifiers()));
            own += isStatic ? 0 : 1;
        }
        holds("at most twenty fields in " + type, own <= 20);
    }

    private static void words() throws IOException {
        String source = Files.readString(Path.of("src/main/java/RoomTalk.java"));
        String code = source.replaceAll("(?s)/\\*.*?\\*/", "").replaceAll("//[^\n]*", "").replaceAll("\"[^\"\n]*\"", "\"\"");
        Matcher matcher = Pattern.compile("\\b(import|package|throw|try|catch|synchronized|assert|protected|float|double)\\b"
                + "|->|::|\"\\s*\\+|\\+\\s*\"").matcher(code);
        while (matcher.find()) {
            holds("'" + matcher.group() + "' stands in the source", false);
        }
        Matcher names = Pattern.compile("private [^=;(]*?(\\w+)\\(").matcher(code);
        while (names.find()) {
            boolean isOfFace = (" " + FACE.replaceAll("[0-9]", "") + " ").contains(" " + names.group(1) + " ");
            holds("private " + names.group(1) + " is no name of the face", !isOfFace);
        }
        for (char sign : source.toCharArray()) {
            if (sign > 127) {
                holds("sign " + (int) sign + " stands in the source", false);
            }
        }
    }
}
