import java.lang.reflect.Constructor;
import java.lang.reflect.Field;
import java.lang.reflect.Method;
import java.lang.reflect.Modifier;
import java.util.Set;
import java.util.TreeSet;

/** The members that can be seen from outside are those of the document's face, and no other. */
public final class FaceTest {
    private static final String[] FACE = {
        "public LeagueRounds()",
        "public static final int LeagueRounds.NONE",
        "public void LeagueRounds.teams(int) throws java.lang.IllegalArgumentException",
        "public int LeagueRounds.ban(int,int,int) throws java.lang.IllegalArgumentException",
        "public int LeagueRounds.shareGround(int,int) throws java.lang.IllegalArgumentException,java.lang.IllegalStateException",
        "public int LeagueRounds.fixGame(int,int,int) throws java.lang.IllegalArgumentException,java.lang.IllegalStateException",
        "public void LeagueRounds.awayCap(int) throws java.lang.IllegalArgumentException",
        "public int LeagueRounds.makePlain(boolean)",
        "public int LeagueRounds.make(int) throws java.lang.IllegalArgumentException,java.lang.IllegalStateException",
        "public int LeagueRounds.rounds()",
        "public int LeagueRounds.opponent(int,int) throws java.lang.IndexOutOfBoundsException",
        "public int LeagueRounds.venue(int,int) throws java.lang.IndexOutOfBoundsException",
        "public int LeagueRounds.breaks(int) throws java.lang.IndexOutOfBoundsException",
        "public int LeagueRounds.verify()",
        "public boolean LeagueRounds.swapRounds(int,int) throws java.lang.IndexOutOfBoundsException,java.lang.IllegalStateException",
        "public int LeagueRounds.result(int,int,int,int) throws java.lang.IndexOutOfBoundsException,java.lang.IllegalArgumentException,java.util.NoSuchElementException,java.lang.IllegalStateException",
        "public int LeagueRounds.table(int,int) throws java.lang.IndexOutOfBoundsException",
        "public int LeagueRounds.washOut(int) throws java.lang.IndexOutOfBoundsException,java.lang.IllegalStateException",
        "public int LeagueRounds.reserve(int) throws java.lang.IllegalArgumentException,java.lang.IllegalStateException",
        "public int LeagueRounds.missing()",
        "public int LeagueRounds.catchUp() throws java.lang.IllegalStateException",
        "public int LeagueRounds.catchDate(int,int) throws java.lang.IndexOutOfBoundsException,java.util.NoSuchElementException",
    };

    public static void main(String[] args) {
        Set<String> seen = new TreeSet<>();
        Set<String> publicNames = new TreeSet<>();
        for (Constructor<?> c : LeagueRounds.class.getDeclaredConstructors()) {
            note(seen, c.getModifiers(), c.toGenericString());
        }
        for (Field f : LeagueRounds.class.getDeclaredFields()) {
            note(seen, f.getModifiers(), f.toGenericString());
        }
        for (Method m : LeagueRounds.class.getDeclaredMethods()) {
            note(seen, m.getModifiers(), m.toGenericString());
            if (Modifier.isPublic(m.getModifiers())) {
                publicNames.add(m.getName());
            }
        }
        Check.same("the face", String.join("\n", new TreeSet<>(Set.of(FACE))), String.join("\n", seen));
        for (Method m : LeagueRounds.class.getDeclaredMethods()) {
            Check.dueTrue("private " + m.getName() + " bears no public name",
                    Modifier.isPublic(m.getModifiers()) || !publicNames.contains(m.getName()));
        }
        Check.dueTrue("the class is final", Modifier.isFinal(LeagueRounds.class.getModifiers()));
        Check.due("NONE", -1, () -> LeagueRounds.NONE);
        Check.end();
    }

    private static void note(Set<String> seen, int modifiers, String member) {
        if (!Modifier.isPrivate(modifiers)) {
            seen.add(member);
        }
    }
}
