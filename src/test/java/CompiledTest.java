import java.io.ByteArrayInputStream;
import java.io.DataInputStream;
import java.io.IOException;
import java.io.InputStream;
import java.lang.reflect.Method;
import java.lang.reflect.Modifier;
import java.nio.ByteBuffer;
import java.util.ArrayList;
import java.util.HashMap;
import java.util.HashSet;
import java.util.List;
import java.util.Map;
import java.util.Set;

/** Rules 4, 8 and 11 of LANGUAGE.md, read off the compiled classes: the library's methods; calls at most eight deep, none back to itself. */
public final class CompiledTest {
    private static final Set<String> LIBRARY = Set.of(("Object.<init> String.length String.charAt String.isEmpty String.equals String.indexOf String.substring"
        + " String.toCharArray String.<init> StringBuilder.<init> StringBuilder.append StringBuilder.charAt StringBuilder.setCharAt StringBuilder.setLength"
        + " StringBuilder.deleteCharAt StringBuilder.reverse StringBuilder.length StringBuilder.toString Math.max Math.min Math.abs Math.floorDiv Math.floorMod"
        + " Integer.bitCount Integer.compare Integer.numberOfTrailingZeros Long.bitCount Long.compare Long.numberOfTrailingZeros System.arraycopy").split(" "));
    private static final int UTF8 = 1;
    private static final int CLASS = 7;
    private static final int LONG = 5;
    private static final int DOUBLE = 6;
    private static final int STRING = 8;
    private static final int NAME_AND_TYPE = 12;
    /** How long instructions are, by their number in runs: the first one, then their length. */
    private static final int[][] LENGTHS = {
        {0x00, 1}, {0x10, 2}, {0x11, 3}, {0x12, 2}, {0x13, 3}, {0x15, 2}, {0x1a, 1}, {0x36, 2}, {0x3b, 1}, {0x84, 3}, {0x85, 1}, {0x99, 3},
        {0xa9, 2}, {0xaa, 0}, {0xac, 1}, {0xb2, 3}, {0xb9, 5}, {0xbb, 3}, {0xbc, 2}, {0xbd, 3}, {0xbe, 1}, {0xc0, 3}, {0xc2, 1}, {0xc4, 0},
        {0xc5, 4}, {0xc6, 3}, {0xc8, 5}};

    private final Map<String, Set<String>> calls = new HashMap<>();
    private final Map<String, Integer> known = new HashMap<>();
    private int[] tags;
    private int[] first;
    private int[] second;
    private String[] texts;

    public static void main(String[] args) throws IOException {
        CompiledTest t = new CompiledTest();
        List<Class<?>> all = new ArrayList<>(List.of(ThreadJudge.class.getDeclaredClasses()));
        all.add(ThreadJudge.class);
        for (Class<?> c : all) {
            t.read(c.getName());
        }
        for (Method m : ThreadJudge.class.getDeclaredMethods()) {
            if (Modifier.isPublic(m.getModifiers())) {
                String name = "ThreadJudge." + m.getName();
                Judged.yes("known: " + name, t.calls.containsKey(name));
                int depth = t.depth(name, new HashSet<>());
                Judged.yes("11, eight deep: " + name + " " + depth, depth <= 8);
            }
        }
        Judged.yes("the deepest are found", t.depth("ThreadJudge.load", new HashSet<>()) > 4);
        Judged.end();
    }

    /** How many calls stand open at most, with those of the library; 999 where one comes back to itself. */
    private int depth(String name, Set<String> open) {
        Integer was = known.get(name);
        if (was != null) {
            return was;
        }
        if (!open.add(name)) {
            return 999;
        }
        int most = 0;
        for (String to : calls.getOrDefault(name, Set.of())) {
            most = Math.max(most, depth(to, open));
        }
        open.remove(name);
        known.put(name, most + 1);
        return most + 1;
    }

    // ---- a class file

    private void read(String name) throws IOException {
        try (InputStream from = ThreadJudge.class.getResourceAsStream(name + ".class")) {
            DataInputStream in = new DataInputStream(new ByteArrayInputStream(from.readAllBytes()));
            in.readInt();
            in.readInt();
            readConstants(in);
            in.readUnsignedShort();
            in.readUnsignedShort();
            in.readUnsignedShort();
            for (int k = in.readUnsignedShort(); k > 0; k--) {
                in.readUnsignedShort();
            }
            for (int k = in.readUnsignedShort(); k > 0; k--) {
                readMember(in, null);
            }
            for (int k = in.readUnsignedShort(); k > 0; k--) {
                readMember(in, name);
            }
        }
    }

    private void readConstants(DataInputStream in) throws IOException {
        int n = in.readUnsignedShort();
        tags = new int[n];
        first = new int[n];
        second = new int[n];
        texts = new String[n];
        for (int k = 1; k < n; k++) {
            int tag = in.readUnsignedByte();
            tags[k] = tag;
            if (tag == UTF8) {
                texts[k] = in.readUTF();
            } else if (tag == LONG || tag == DOUBLE) {
                in.readLong();
                k++;
            } else if (tag == CLASS || tag == STRING || tag == 16 || tag == 19 || tag == 20) {
                first[k] = in.readUnsignedShort();
            } else if (tag == 15) {
                in.readUnsignedByte();
                in.readUnsignedShort();
            } else {
                first[k] = in.readUnsignedShort();
                second[k] = in.readUnsignedShort();
            }
        }
    }

    /** A field (no class told) or a method. */
    private void readMember(DataInputStream in, String owner) throws IOException {
        in.readUnsignedShort();
        String name = texts[in.readUnsignedShort()];
        in.readUnsignedShort();
        for (int k = in.readUnsignedShort(); k > 0; k--) {
            String what = texts[in.readUnsignedShort()];
            byte[] bytes = new byte[in.readInt()];
            in.readFully(bytes);
            if (owner != null && what.equals("Code")) {
                ByteBuffer all = ByteBuffer.wrap(bytes);
                all.getInt();
                byte[] code = new byte[all.getInt()];
                all.get(code);
                readCode(code, calls.computeIfAbsent(owner + "." + name, x -> new HashSet<>()));
            }
        }
    }

    private void readCode(byte[] code, Set<String> to) {
        ByteBuffer all = ByteBuffer.wrap(code);
        for (int at = 0; at < code.length;) {
            int op = code[at] & 255;
            Judged.yes("2, no lambda, no joined texts", op != 0xba);
            if (op >= 0xb6 && op <= 0xb9) {
                int ref = all.getShort(at + 1) & 0xffff;
                Judged.yes("a name and a type", tags[second[ref]] == NAME_AND_TYPE);
                String name = texts[first[first[ref]]] + "." + texts[first[second[ref]]];
                boolean fine = LIBRARY.contains(name.replace("java/lang/", "")) || name.equals("java/util/Arrays.fill") || name.startsWith("[");
                Judged.yes("4, of the library: " + name, fine || name.startsWith("ThreadJudge"));
                to.add(name);
            }
            at += length(all, at, op);
        }
    }

    private static int length(ByteBuffer all, int at, int op) {
        int pad = (at + 4) / 4 * 4;
        if (op == 0xaa) {
            return pad - at + 12 + 4 * (all.getInt(pad + 8) - all.getInt(pad + 4) + 1);
        }
        if (op == 0xab) {
            return pad - at + 8 + 8 * all.getInt(pad + 4);
        }
        if (op == 0xc4) {
            return (all.get(at + 1) & 255) == 0x84 ? 6 : 4;
        }
        int length = 1;
        for (int[] run : LENGTHS) {
            length = op >= run[0] ? run[1] : length;
        }
        return length;
    }
}
