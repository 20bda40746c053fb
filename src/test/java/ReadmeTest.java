import java.io.IOException;
import java.lang.reflect.InvocationTargetException;
import java.lang.reflect.Method;
import java.nio.charset.StandardCharsets;
import java.nio.file.Files;
import java.nio.file.Path;
import java.util.HashSet;
import java.util.Set;
import java.util.TreeSet;
import java.util.regex.Matcher;
import java.util.regex.Pattern;

/** Plays the walk of README.md: each call has to give the answer with which its comment begins. */
public final class ReadmeTest {
  private static final Pattern CALL =
      Pattern.compile("^x\\.(\\w+)\\((.*)\\);\\s+// (-?\\d+|true|false)\\b.*$");
  private static int wrong = 0;
  private static int played = 0;

  public static void main(String[] args) throws IOException {
    String text = Files.readString(Path.of("README.md"), StandardCharsets.UTF_8);
    PowersHouse x = new PowersHouse();
    for (String line : text.split("\n")) {
      if (line.startsWith("x.")) {
        play(x, line);
      }
    }
    namesAllCalls(text);
    System.out.println(played + " calls of README.md played, " + wrong + " faults");
    if (wrong != 0 || played == 0) {
      System.exit(1);
    }
  }

  private static void play(PowersHouse x, String line) {
    Matcher m = CALL.matcher(line);
    played++;
    if (!m.matches()) {
      say("no call with an answer: " + line);
      return;
    }
    String got = answer(x, m.group(1), m.group(2));
    if (!got.equals(m.group(3))) {
      say(line + " -- answered " + got);
    }
  }

  private static String answer(PowersHouse x, String name, String args) {
    String[] words = args.isEmpty() ? new String[0] : args.split(", ");
    for (Method method : PowersHouse.class.getDeclaredMethods()) {
      if (method.getName().equals(name) && method.getParameterCount() == words.length) {
        Object[] values = new Object[words.length];
        for (int k = 0; k < words.length; k++) {
          values[k] = value(words[k]);
        }
        try {
          return String.valueOf(method.invoke(x, values));
        } catch (InvocationTargetException | IllegalAccessException e) {
          return String.valueOf(e.getCause());
        }
      }
    }
    return "nothing: no such call";
  }

  private static Object value(String word) {
    if (word.equals("true") || word.equals("false")) {
      return Boolean.valueOf(word);
    }
    return word.equals("PowersHouse.NONE") ? PowersHouse.NONE : Integer.decode(word);
  }

  /** The table has every call of the face, and no other one. */
  private static void namesAllCalls(String text) {
    Set<String> told = new HashSet<>();
    for (String line : text.split("\n")) {
      if (line.startsWith("| `")) {
        Matcher m = Pattern.compile("`(\\w+)`").matcher(line.substring(0, line.lastIndexOf("` |") + 1));
        while (m.find()) {
          told.add(m.group(1));
        }
      }
    }
    Set<String> face = new TreeSet<>();
    for (Method method : PowersHouse.class.getDeclaredMethods()) {
      if (java.lang.reflect.Modifier.isPublic(method.getModifiers())) {
        face.add(method.getName());
      }
    }
    if (!told.equals(face)) {
      say("the table has " + new TreeSet<>(told) + ", the face " + face);
    }
  }

  private static void say(String fault) {
    wrong++;
    System.out.println(fault);
  }
}
