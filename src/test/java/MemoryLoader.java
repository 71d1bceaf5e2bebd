import java.io.IOException;
import java.io.InputStream;
import java.util.Map;

/** Loads classes from memory, and the tests once more, so that they use these. */
final class MemoryLoader extends ClassLoader {
    private final Map<String, byte[]> classes;

    MemoryLoader(Map<String, byte[]> classes) {
        super(MemoryLoader.class.getClassLoader());
        this.classes = classes;
    }

    @Override
    protected Class<?> loadClass(String name, boolean resolve) throws ClassNotFoundException {
        Class<?> loaded = findLoadedClass(name);
        if (loaded != null) {
            return loaded;
        }
        byte[] bytes = classes.containsKey(name) ? classes.get(name) : bytesOfTest(name);
        return bytes == null ? super.loadClass(name, resolve) : defineClass(name, bytes, 0, bytes.length);
    }

    private byte[] bytesOfTest(String name) throws ClassNotFoundException {
        if (name.contains(".")) {
            return null;
        }
        try (InputStream in = getParent().getResourceAsStream(name + ".class")) {
            return in == null ? null : in.readAllBytes();
        } catch (IOException failed) {
            throw new ClassNotFoundException(name, failed);
        }
    }
}
