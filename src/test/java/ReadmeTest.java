import java.io.IOException;
import java.lang.reflect.Method;
import java.nio.file.Files;
import java.nio.file.Path;
import java.util.regex.Matcher;
import java.util.regex.Pattern;

/** The calls that README.md shows, block by block, each held against the number that stands behind it. */
public final class ReadmeTest {
    private static final Pattern BLOCK = Pattern.compile("(?s)```java\n(.*?)```");
    private static final Pattern CALL = Pattern.compile("(room|talk)\\.(\\w+)\\((.*)\\); *// (-?\\d+).*");
    private static final int CALLS_SHOWN = 44;

    public static void main(String[] args) throws IOException, ReflectiveOperationException {
        Matcher blocks = BLOCK.matcher(Files.readString(Path.of("README.md")));
        int calls = 0;
        while (blocks.find()) {
            Talk talk = new Talk();
            for (String line : blocks.group(1).split("\n")) {
                calls += held(talk, line) ? 1 : 0;
            }
        }
        Talk.due("calls shown in README.md", calls, CALLS_SHOWN);
        Talk.finish();
    }

    private static boolean held(Talk talk, String line) throws ReflectiveOperationException {
        Matcher call = CALL.matcher(line);
        if (!call.matches()) {
            boolean makes = line.isEmpty() || line.matches("(RoomTalk room|Talk talk) = [^/]*;");
            Talk.due("'" + line + "' is a call with its answer", makes ? 1 : 0, 1);
            return false;
        }
        String inside = call.group(3);
        int got = call.group(1).equals("talk")
                ? talk.say(inside.substring(1, inside.length() - 1))
                : answer(talk.room, call.group(2), inside);
        Talk.due("README.md: " + line, got, Integer.parseInt(call.group(4)));
        return true;
    }

    private static int answer(RoomTalk room, String name, String inside) throws ReflectiveOperationException {
        String[] texts = inside.isEmpty() ? new String[0] : inside.split(", ");
        Class<?>[] types = new Class<?>[texts.length];
        Object[] numbers = new Object[texts.length];
        for (int i = 0; i < texts.length; i++) {
            types[i] = int.class;
            numbers[i] = texts[i].equals("RoomTalk.NONE") ? RoomTalk.NONE : Integer.decode(texts[i]);
        }
        Method method = RoomTalk.class.getMethod(name, types);
        return (Integer) method.invoke(room, numbers);
    }
}
