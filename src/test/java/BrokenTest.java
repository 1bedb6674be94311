import java.io.ByteArrayOutputStream;
import java.io.IOException;
import java.io.InputStream;
import java.io.OutputStream;
import java.lang.reflect.Method;
import java.net.URI;
import java.nio.file.Files;
import java.nio.file.Path;
import java.util.ArrayList;
import java.util.List;
import java.util.Map;
import java.util.concurrent.ConcurrentHashMap;
import javax.tools.FileObject;
import javax.tools.ForwardingJavaFileManager;
import javax.tools.JavaCompiler;
import javax.tools.JavaFileManager;
import javax.tools.JavaFileObject;
import javax.tools.SimpleJavaFileObject;
import javax.tools.ToolProvider;

/** Each test that stands for a sentence fails, if the class is broken in one of the ways that stand above the test. */
public final class BrokenTest {
  private static final Path SOURCE = Path.of("src/main/java/ThreeRings.java");

  private record Way(Class<?> tests, Method test, Broken broken) {}

  public static void main(String[] args) throws IOException {
    String source = Files.readString(SOURCE);
    List<Way> ways = new ArrayList<>();
    for (Class<?> tests : Sentences.TESTS) {
      for (Method test : Sentences.of(tests)) {
        if (args.length > 0 && !test.getName().equals(args[0])) continue;
        Broken[] all = test.getAnnotationsByType(Broken.class);
        Check.holds(Sentences.told(test) + " can be broken", all.length > 0);
        for (Broken broken : all) ways.add(new Way(tests, test, broken));
      }
    }
    List<String> unnoticed = ways.parallelStream().map(way -> tried(way, source)).filter(s -> !s.isEmpty()).toList();
    for (String words : unnoticed) Check.holds(words, false);
    Check.due("ways to break sentences that were noticed", ways.size() - unnoticed.size(), ways.size());
    System.out.println(ways.size() + " ways to break a sentence");
    Check.end("BrokenTest");
  }

  /** Empty if the test notices; else what is amiss. */
  private static String tried(Way way, String source) {
    Broken broken = way.broken();
    String name = way.tests().getName() + "." + way.test().getName() + ": " + broken.code() + " -> " + broken.as();
    int from = source.indexOf(broken.in());
    int at = from < 0 ? -1 : source.indexOf(broken.code(), from);
    if (at < 0) return name + ": the class has no such code any more";
    String changed = source.substring(0, at) + broken.as() + source.substring(at + broken.code().length());
    Map<String, byte[]> classes = compiled(changed);
    if (classes.isEmpty()) return name + ": does not compile";
    return notices(way, classes) ? "" : name + ": the test does not notice";
  }

  private static boolean notices(Way way, Map<String, byte[]> classes) {
    try {
      Loader loader = new Loader(classes);
      Class<?> check = loader.loadClass("Check");
      accessible(check.getDeclaredMethod("beQuiet")).invoke(null);
      Method test = loader.loadClass(way.tests().getName()).getDeclaredMethod(way.test().getName());
      accessible(loader.loadClass("Sentences").getDeclaredMethod("call", Method.class)).invoke(null, accessible(test));
      return (int) accessible(check.getDeclaredMethod("wrongSoFar")).invoke(null) > 0;
    } catch (ReflectiveOperationException e) {
      throw new IllegalStateException(e);
    }
  }

  private static Method accessible(Method m) {
    m.setAccessible(true);
    return m;
  }

  /** Takes ThreeRings from what was compiled, and every test class anew, so that nothing is shared. */
  private static final class Loader extends ClassLoader {
    private final Map<String, byte[]> classes;

    Loader(Map<String, byte[]> classes) {
      super(BrokenTest.class.getClassLoader());
      this.classes = classes;
    }

    @Override
    protected Class<?> loadClass(String name, boolean resolve) throws ClassNotFoundException {
      synchronized (getClassLoadingLock(name)) {
        if (name.contains(".")) return super.loadClass(name, resolve);
        Class<?> found = findLoadedClass(name);
        if (found != null) return found;
        byte[] bytes = classes.containsKey(name) ? classes.get(name) : bytesOf(name);
        return defineClass(name, bytes, 0, bytes.length);
      }
    }

    private byte[] bytesOf(String name) throws ClassNotFoundException {
      try (InputStream in = getParent().getResourceAsStream(name + ".class")) {
        if (in == null) throw new ClassNotFoundException(name);
        return in.readAllBytes();
      } catch (IOException e) {
        throw new ClassNotFoundException(name, e);
      }
    }
  }

  private static final ThreadLocal<JavaFileManager> FILES =
      ThreadLocal.withInitial(() -> ToolProvider.getSystemJavaCompiler().getStandardFileManager(d -> {}, null, null));

  private static Map<String, byte[]> compiled(String source) {
    Map<String, byte[]> classes = new ConcurrentHashMap<>();
    JavaFileObject unit = new SimpleJavaFileObject(URI.create("string:///ThreeRings.java"), JavaFileObject.Kind.SOURCE) {
      @Override
      public CharSequence getCharContent(boolean ignoreEncodingErrors) {
        return source;
      }
    };
    JavaCompiler javac = ToolProvider.getSystemJavaCompiler();
    JavaFileManager files = new Kept(FILES.get(), classes);
    boolean well = javac.getTask(null, files, d -> {}, List.of("-nowarn", "-proc:none"), null, List.of(unit)).call();
    return well ? classes : Map.of();
  }

  /** Keeps the classes that the compiler writes. */
  private static final class Kept extends ForwardingJavaFileManager<JavaFileManager> {
    private final Map<String, byte[]> classes;

    Kept(JavaFileManager files, Map<String, byte[]> classes) {
      super(files);
      this.classes = classes;
    }

    @Override
    public JavaFileObject getJavaFileForOutput(Location where, String name, JavaFileObject.Kind kind, FileObject of) {
      return new SimpleJavaFileObject(URI.create("bytes:///" + name + ".class"), kind) {
        @Override
        public OutputStream openOutputStream() {
          return new ByteArrayOutputStream() {
            @Override
            public void close() {
              classes.put(name, toByteArray());
            }
          };
        }
      };
    }
  }
}
