import java.lang.reflect.Constructor;
import java.lang.reflect.Field;
import java.lang.reflect.Method;
import java.lang.reflect.Modifier;
import java.util.Set;
import java.util.TreeSet;

/** The public face of the document: all of it, and nothing else that can be seen from outside. */
public final class FaceTest {
    private static final Set<String> FACE = Set.of(
        "public static final int CuttingTable.NONE",
        "public CuttingTable()",
        "public int CuttingTable.thread(int,int,int)",
        "public int CuttingTable.tag(int,int)",
        "public int CuttingTable.share(int,int)",
        "public int CuttingTable.copy(int,int)",
        "public int CuttingTable.clear(int)",
        "public int CuttingTable.put(int,int,long)",
        "public int CuttingTable.shoot(int,int,int,int)",
        "public int CuttingTable.splice(int,int,int,int,int)",
        "public int CuttingTable.open(int,int,int)",
        "public int CuttingTable.close(int,int,int)",
        "public int CuttingTable.loop(int,int,int,int)",
        "public int CuttingTable.note(int,int,int,int,int)",
        "public int CuttingTable.play()",
        "public int CuttingTable.takeBack()",
        "public int CuttingTable.refusal(int)",
        "public int CuttingTable.look(int,int)",
        "public long CuttingTable.at(int,int) throws java.lang.IllegalStateException,"
            + "java.lang.IndexOutOfBoundsException",
        "public boolean CuttingTable.alike(int,int)",
        "public int CuttingTable.count(int)");

    public static void main(String[] args) {
        Class<?> table = CuttingTable.class;
        Set<String> seen = new TreeSet<>();
        for (Field f : table.getDeclaredFields()) {
            if (!Modifier.isPrivate(f.getModifiers())) {
                seen.add(f.toString());
            }
            Due.is(f + " is static, not final", Modifier.isStatic(f.getModifiers())
                && !Modifier.isFinal(f.getModifiers()), false);
        }
        for (Constructor<?> c : table.getDeclaredConstructors()) {
            if (!Modifier.isPrivate(c.getModifiers())) {
                seen.add(c.toString());
            }
        }
        Set<String> publicNames = new TreeSet<>();
        Set<String> privateNames = new TreeSet<>();
        for (Method m : table.getDeclaredMethods()) {
            if (Modifier.isPrivate(m.getModifiers())) {
                privateNames.add(m.getName());
            } else {
                seen.add(m.toString());
                publicNames.add(m.getName());
            }
        }
        for (String member : FACE) {
            Due.is("face: " + member, seen.contains(member), true);
        }
        for (String member : seen) {
            Due.is("beyond the face: " + member, FACE.contains(member), true);
        }
        for (String name : publicNames) {
            Due.is("a private method is named " + name, privateNames.contains(name), false);
        }
        Due.is("public", Modifier.isPublic(table.getModifiers()), true);
        Due.is("final", Modifier.isFinal(table.getModifiers()), true);
        Due.end();
    }
}
