import java.io.ByteArrayOutputStream;
import java.io.OutputStream;
import java.io.Writer;
import java.net.URI;
import java.util.HashMap;
import java.util.List;
import java.util.Map;
import javax.tools.FileObject;
import javax.tools.ForwardingJavaFileManager;
import javax.tools.JavaCompiler;
import javax.tools.JavaFileManager;
import javax.tools.JavaFileObject;
import javax.tools.SimpleJavaFileObject;
import javax.tools.ToolProvider;

/** Compiles a class from a text, beside the tests, and leaves no file behind. */
final class MemoryCompiler {
    private final JavaCompiler compiler;

    private MemoryCompiler(JavaCompiler compiler) {
        this.compiler = compiler;
    }

    /** The compiler of the java that runs, or null if there is none in it. */
    static MemoryCompiler find() {
        JavaCompiler compiler = ToolProvider.getSystemJavaCompiler();
        return compiler == null ? null : new MemoryCompiler(compiler);
    }

    /** The compiled classes by their names, or null if the text is none that can be compiled: then there are messages. */
    Map<String, byte[]> compile(String name, String text, Writer messages) {
        Map<String, ByteArrayOutputStream> written = new HashMap<>();
        JavaFileManager files = new MemoryFiles(compiler.getStandardFileManager(null, null, null), written);
        List<JavaFileObject> sources = List.of(new SourceInMemory(name, text));
        if (!compiler.getTask(messages, files, null, List.of("-proc:none", "-g:none"), null, sources).call()) {
            return null;
        }
        Map<String, byte[]> classes = new HashMap<>();
        written.forEach((part, bytes) -> classes.put(part, bytes.toByteArray()));
        return classes;
    }

    private static final class SourceInMemory extends SimpleJavaFileObject {
        private final String text;

        SourceInMemory(String name, String text) {
            super(URI.create("memory:///" + name + ".java"), Kind.SOURCE);
            this.text = text;
        }

        @Override
        public CharSequence getCharContent(boolean ignoreEncodingErrors) {
            return text;
        }
    }

    private static final class MemoryFiles extends ForwardingJavaFileManager<JavaFileManager> {
        private final Map<String, ByteArrayOutputStream> written;

        MemoryFiles(JavaFileManager files, Map<String, ByteArrayOutputStream> written) {
            super(files);
            this.written = written;
        }

        @Override
        public JavaFileObject getJavaFileForOutput(Location location, String name, JavaFileObject.Kind kind, FileObject sibling) {
            return new SimpleJavaFileObject(URI.create("memory:///" + name + ".class"), kind) {
                @Override
                public OutputStream openOutputStream() {
                    ByteArrayOutputStream bytes = new ByteArrayOutputStream();
                    written.put(name, bytes);
                    return bytes;
                }
            };
        }
    }
}
